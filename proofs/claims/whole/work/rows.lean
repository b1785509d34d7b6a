section
-- ===== PART A: goes FIRST, ahead of the names: the tables' words, and 'selects' of the private methods out of them =====
/-- a private method of a class that the tables say can be made, by its rows of tables_1 -/
def lw_okq (q : MethodName × Nat) : Prop := (q.1.cls ≠ "java/lang/invoke/MethodHandle" ∧ q.1.cls ≠ "java/lang/invoke/VarHandle") ∧ Cond.instantiable q.1.cls q.2 ∈ tables_1 ∧ Cond.privateMethod q.1 ∈ tables_1 ∧ Cond.instanceMethod q.1 ∈ tables_1
theorem lw_p0 : lw_okq (⟨"NoSquare$Grid", "addSquares", "(I)V"⟩, 12) := ⟨⟨by decide +kernel, by decide +kernel⟩, List.mem_of_getElem? (i := 29) (by decide +kernel), List.mem_of_getElem? (i := 344) (by decide +kernel), List.mem_of_getElem? (i := 345) (by decide +kernel)⟩
theorem lw_p1 : lw_okq (⟨"NoSquare$Grid", "rimOf", "(III)I"⟩, 12) := ⟨⟨by decide +kernel, by decide +kernel⟩, List.mem_of_getElem? (i := 29) (by decide +kernel), List.mem_of_getElem? (i := 348) (by decide +kernel), List.mem_of_getElem? (i := 349) (by decide +kernel)⟩
theorem lw_p2 : lw_okq (⟨"NoSquare$Grid", "across", "(II)I"⟩, 12) := ⟨⟨by decide +kernel, by decide +kernel⟩, List.mem_of_getElem? (i := 29) (by decide +kernel), List.mem_of_getElem? (i := 352) (by decide +kernel), List.mem_of_getElem? (i := 353) (by decide +kernel)⟩
theorem lw_p3 : lw_okq (⟨"NoSquare$Grid", "standing", "(II)I"⟩, 12) := ⟨⟨by decide +kernel, by decide +kernel⟩, List.mem_of_getElem? (i := 29) (by decide +kernel), List.mem_of_getElem? (i := 356) (by decide +kernel), List.mem_of_getElem? (i := 357) (by decide +kernel)⟩
theorem lw_p4 : lw_okq (⟨"NoSquare$Grid", "turnPlaces", "(II)V"⟩, 12) := ⟨⟨by decide +kernel, by decide +kernel⟩, List.mem_of_getElem? (i := 29) (by decide +kernel), List.mem_of_getElem? (i := 360) (by decide +kernel), List.mem_of_getElem? (i := 361) (by decide +kernel)⟩
theorem lw_p5 : lw_okq (⟨"NoSquare$Telling", "begin", "()V"⟩, 12) := ⟨⟨by decide +kernel, by decide +kernel⟩, List.mem_of_getElem? (i := 147) (by decide +kernel), List.mem_of_getElem? (i := 438) (by decide +kernel), List.mem_of_getElem? (i := 439) (by decide +kernel)⟩
theorem lw_p6 : lw_okq (⟨"NoSquare$Tape", "pass", "(CC)V"⟩, 6) := ⟨⟨by decide +kernel, by decide +kernel⟩, List.mem_of_getElem? (i := 117) (by decide +kernel), List.mem_of_getElem? (i := 451) (by decide +kernel), List.mem_of_getElem? (i := 452) (by decide +kernel)⟩
theorem lw_p7 : lw_okq (⟨"NoSquare$Tape", "takeNumber", "()V"⟩, 6) := ⟨⟨by decide +kernel, by decide +kernel⟩, List.mem_of_getElem? (i := 117) (by decide +kernel), List.mem_of_getElem? (i := 455) (by decide +kernel), List.mem_of_getElem? (i := 456) (by decide +kernel)⟩
theorem lw_p8 : lw_okq (⟨"NoSquare$Telling", "finish", "()Z"⟩, 12) := ⟨⟨by decide +kernel, by decide +kernel⟩, List.mem_of_getElem? (i := 147) (by decide +kernel), List.mem_of_getElem? (i := 459) (by decide +kernel), List.mem_of_getElem? (i := 460) (by decide +kernel)⟩
theorem lw_p9 : lw_okq (⟨"NoSquare$Telling", "refuse", "(I)Z"⟩, 12) := ⟨⟨by decide +kernel, by decide +kernel⟩, List.mem_of_getElem? (i := 147) (by decide +kernel), List.mem_of_getElem? (i := 465) (by decide +kernel), List.mem_of_getElem? (i := 466) (by decide +kernel)⟩
theorem lw_p10 : lw_okq (⟨"NoSquare$Telling", "tellLine", "()Z"⟩, 12) := ⟨⟨by decide +kernel, by decide +kernel⟩, List.mem_of_getElem? (i := 147) (by decide +kernel), List.mem_of_getElem? (i := 469) (by decide +kernel), List.mem_of_getElem? (i := 470) (by decide +kernel)⟩
theorem lw_p11 : lw_okq (⟨"NoSquare$Telling", "tellGrid", "()Z"⟩, 12) := ⟨⟨by decide +kernel, by decide +kernel⟩, List.mem_of_getElem? (i := 147) (by decide +kernel), List.mem_of_getElem? (i := 526) (by decide +kernel), List.mem_of_getElem? (i := 527) (by decide +kernel)⟩
theorem lw_p12 : lw_okq (⟨"NoSquare$Telling", "nextNumber", "(III)Z"⟩, 12) := ⟨⟨by decide +kernel, by decide +kernel⟩, List.mem_of_getElem? (i := 147) (by decide +kernel), List.mem_of_getElem? (i := 530) (by decide +kernel), List.mem_of_getElem? (i := 531) (by decide +kernel)⟩
theorem lw_p13 : lw_okq (⟨"NoSquare$Telling", "isNumber", "(III)Z"⟩, 12) := ⟨⟨by decide +kernel, by decide +kernel⟩, List.mem_of_getElem? (i := 147) (by decide +kernel), List.mem_of_getElem? (i := 534) (by decide +kernel), List.mem_of_getElem? (i := 535) (by decide +kernel)⟩
theorem lw_p14 : lw_okq (⟨"NoSquare$Telling", "misfit", "()I"⟩, 12) := ⟨⟨by decide +kernel, by decide +kernel⟩, List.mem_of_getElem? (i := 147) (by decide +kernel), List.mem_of_getElem? (i := 538) (by decide +kernel), List.mem_of_getElem? (i := 539) (by decide +kernel)⟩
theorem lw_p15 : lw_okq (⟨"NoSquare$Telling", "nextStop", "()Z"⟩, 12) := ⟨⟨by decide +kernel, by decide +kernel⟩, List.mem_of_getElem? (i := 147) (by decide +kernel), List.mem_of_getElem? (i := 542) (by decide +kernel), List.mem_of_getElem? (i := 543) (by decide +kernel)⟩
def lw_privs_1 : List (MethodName × Nat) := [(⟨"NoSquare$Grid", "addSquares", "(I)V"⟩, 12), (⟨"NoSquare$Grid", "rimOf", "(III)I"⟩, 12), (⟨"NoSquare$Grid", "across", "(II)I"⟩, 12), (⟨"NoSquare$Grid", "standing", "(II)I"⟩, 12), (⟨"NoSquare$Grid", "turnPlaces", "(II)V"⟩, 12), (⟨"NoSquare$Telling", "begin", "()V"⟩, 12), (⟨"NoSquare$Tape", "pass", "(CC)V"⟩, 6), (⟨"NoSquare$Tape", "takeNumber", "()V"⟩, 6), (⟨"NoSquare$Telling", "finish", "()Z"⟩, 12), (⟨"NoSquare$Telling", "refuse", "(I)Z"⟩, 12), (⟨"NoSquare$Telling", "tellLine", "()Z"⟩, 12), (⟨"NoSquare$Telling", "tellGrid", "()Z"⟩, 12), (⟨"NoSquare$Telling", "nextNumber", "(III)Z"⟩, 12), (⟨"NoSquare$Telling", "isNumber", "(III)Z"⟩, 12), (⟨"NoSquare$Telling", "misfit", "()I"⟩, 12), (⟨"NoSquare$Telling", "nextStop", "()Z"⟩, 12)]
theorem lw_r1 : ∀ q ∈ lw_privs_1, lw_okq q := List.forall_mem_cons.mpr ⟨lw_p0, List.forall_mem_cons.mpr ⟨lw_p1, List.forall_mem_cons.mpr ⟨lw_p2, List.forall_mem_cons.mpr ⟨lw_p3, List.forall_mem_cons.mpr ⟨lw_p4, List.forall_mem_cons.mpr ⟨lw_p5, List.forall_mem_cons.mpr ⟨lw_p6, List.forall_mem_cons.mpr ⟨lw_p7, List.forall_mem_cons.mpr ⟨lw_p8, List.forall_mem_cons.mpr ⟨lw_p9, List.forall_mem_cons.mpr ⟨lw_p10, List.forall_mem_cons.mpr ⟨lw_p11, List.forall_mem_cons.mpr ⟨lw_p12, List.forall_mem_cons.mpr ⟨lw_p13, List.forall_mem_cons.mpr ⟨lw_p14, List.forall_mem_cons.mpr ⟨lw_p15, fun _ h => absurd h List.not_mem_nil⟩⟩⟩⟩⟩⟩⟩⟩⟩⟩⟩⟩⟩⟩⟩⟩
theorem lw_p16 : lw_okq (⟨"NoSquare$Telling", "tellGone", "()Z"⟩, 12) := ⟨⟨by decide +kernel, by decide +kernel⟩, List.mem_of_getElem? (i := 147) (by decide +kernel), List.mem_of_getElem? (i := 547) (by decide +kernel), List.mem_of_getElem? (i := 548) (by decide +kernel)⟩
theorem lw_p17 : lw_okq (⟨"NoSquare$Telling", "moreNumbers", "(III)Z"⟩, 12) := ⟨⟨by decide +kernel, by decide +kernel⟩, List.mem_of_getElem? (i := 147) (by decide +kernel), List.mem_of_getElem? (i := 551) (by decide +kernel), List.mem_of_getElem? (i := 552) (by decide +kernel)⟩
theorem lw_p18 : lw_okq (⟨"NoSquare$Telling", "tellCost", "()Z"⟩, 12) := ⟨⟨by decide +kernel, by decide +kernel⟩, List.mem_of_getElem? (i := 147) (by decide +kernel), List.mem_of_getElem? (i := 556) (by decide +kernel), List.mem_of_getElem? (i := 557) (by decide +kernel)⟩
theorem lw_p19 : lw_okq (⟨"NoSquare$Telling", "tellSizes", "()Z"⟩, 12) := ⟨⟨by decide +kernel, by decide +kernel⟩, List.mem_of_getElem? (i := 147) (by decide +kernel), List.mem_of_getElem? (i := 561) (by decide +kernel), List.mem_of_getElem? (i := 562) (by decide +kernel)⟩
theorem lw_p20 : lw_okq (⟨"NoSquare$Telling", "tellSeen", "()Z"⟩, 12) := ⟨⟨by decide +kernel, by decide +kernel⟩, List.mem_of_getElem? (i := 147) (by decide +kernel), List.mem_of_getElem? (i := 566) (by decide +kernel), List.mem_of_getElem? (i := 567) (by decide +kernel)⟩
theorem lw_p21 : lw_okq (⟨"NoSquare", "isMatch", "(I)Z"⟩, 13) := ⟨⟨by decide +kernel, by decide +kernel⟩, List.mem_of_getElem? (i := 21) (by decide +kernel), List.mem_of_getElem? (i := 597) (by decide +kernel), List.mem_of_getElem? (i := 598) (by decide +kernel)⟩
theorem lw_p22 : lw_okq (⟨"NoSquare", "leftOf", "(I)I"⟩, 13) := ⟨⟨by decide +kernel, by decide +kernel⟩, List.mem_of_getElem? (i := 21) (by decide +kernel), List.mem_of_getElem? (i := 618) (by decide +kernel), List.mem_of_getElem? (i := 619) (by decide +kernel)⟩
theorem lw_p23 : lw_okq (⟨"NoSquare", "leftSquares", "(I)I"⟩, 13) := ⟨⟨by decide +kernel, by decide +kernel⟩, List.mem_of_getElem? (i := 21) (by decide +kernel), List.mem_of_getElem? (i := 622) (by decide +kernel), List.mem_of_getElem? (i := 623) (by decide +kernel)⟩
theorem lw_p24 : lw_okq (⟨"NoSquare", "countedSquares", "()I"⟩, 13) := ⟨⟨by decide +kernel, by decide +kernel⟩, List.mem_of_getElem? (i := 21) (by decide +kernel), List.mem_of_getElem? (i := 626) (by decide +kernel), List.mem_of_getElem? (i := 627) (by decide +kernel)⟩
theorem lw_p25 : lw_okq (⟨"NoSquare", "takeOne", "(I)I"⟩, 13) := ⟨⟨by decide +kernel, by decide +kernel⟩, List.mem_of_getElem? (i := 21) (by decide +kernel), List.mem_of_getElem? (i := 634) (by decide +kernel), List.mem_of_getElem? (i := 635) (by decide +kernel)⟩
theorem lw_p26 : lw_okq (⟨"NoSquare", "lies", "(I)Z"⟩, 13) := ⟨⟨by decide +kernel, by decide +kernel⟩, List.mem_of_getElem? (i := 21) (by decide +kernel), List.mem_of_getElem? (i := 638) (by decide +kernel), List.mem_of_getElem? (i := 639) (by decide +kernel)⟩
theorem lw_p27 : lw_okq (⟨"NoSquare$Breaker", "noteSet", "(II)V"⟩, 9) := ⟨⟨by decide +kernel, by decide +kernel⟩, List.mem_of_getElem? (i := 198) (by decide +kernel), List.mem_of_getElem? (i := 672) (by decide +kernel), List.mem_of_getElem? (i := 673) (by decide +kernel)⟩
theorem lw_p28 : lw_okq (⟨"NoSquare$Breaker", "costAtLeast", "(II)I"⟩, 9) := ⟨⟨by decide +kernel, by decide +kernel⟩, List.mem_of_getElem? (i := 198) (by decide +kernel), List.mem_of_getElem? (i := 679) (by decide +kernel), List.mem_of_getElem? (i := 680) (by decide +kernel)⟩
theorem lw_p29 : lw_okq (⟨"NoSquare$Breaker", "cheapestOf", "(I)I"⟩, 9) := ⟨⟨by decide +kernel, by decide +kernel⟩, List.mem_of_getElem? (i := 198) (by decide +kernel), List.mem_of_getElem? (i := 684) (by decide +kernel), List.mem_of_getElem? (i := 685) (by decide +kernel)⟩
theorem lw_p30 : lw_okq (⟨"NoSquare$Grid", "mirrorsInto", "(II)Z"⟩, 12) := ⟨⟨by decide +kernel, by decide +kernel⟩, List.mem_of_getElem? (i := 29) (by decide +kernel), List.mem_of_getElem? (i := 704) (by decide +kernel), List.mem_of_getElem? (i := 705) (by decide +kernel)⟩
theorem lw_p31 : lw_okq (⟨"NoSquare$Grid", "moved", "(I[I)I"⟩, 12) := ⟨⟨by decide +kernel, by decide +kernel⟩, List.mem_of_getElem? (i := 29) (by decide +kernel), List.mem_of_getElem? (i := 708) (by decide +kernel), List.mem_of_getElem? (i := 709) (by decide +kernel)⟩
def lw_privs_2 : List (MethodName × Nat) := [(⟨"NoSquare$Telling", "tellGone", "()Z"⟩, 12), (⟨"NoSquare$Telling", "moreNumbers", "(III)Z"⟩, 12), (⟨"NoSquare$Telling", "tellCost", "()Z"⟩, 12), (⟨"NoSquare$Telling", "tellSizes", "()Z"⟩, 12), (⟨"NoSquare$Telling", "tellSeen", "()Z"⟩, 12), (⟨"NoSquare", "isMatch", "(I)Z"⟩, 13), (⟨"NoSquare", "leftOf", "(I)I"⟩, 13), (⟨"NoSquare", "leftSquares", "(I)I"⟩, 13), (⟨"NoSquare", "countedSquares", "()I"⟩, 13), (⟨"NoSquare", "takeOne", "(I)I"⟩, 13), (⟨"NoSquare", "lies", "(I)Z"⟩, 13), (⟨"NoSquare$Breaker", "noteSet", "(II)V"⟩, 9), (⟨"NoSquare$Breaker", "costAtLeast", "(II)I"⟩, 9), (⟨"NoSquare$Breaker", "cheapestOf", "(I)I"⟩, 9), (⟨"NoSquare$Grid", "mirrorsInto", "(II)Z"⟩, 12), (⟨"NoSquare$Grid", "moved", "(I[I)I"⟩, 12)]
theorem lw_r2 : ∀ q ∈ lw_privs_2, lw_okq q := List.forall_mem_cons.mpr ⟨lw_p16, List.forall_mem_cons.mpr ⟨lw_p17, List.forall_mem_cons.mpr ⟨lw_p18, List.forall_mem_cons.mpr ⟨lw_p19, List.forall_mem_cons.mpr ⟨lw_p20, List.forall_mem_cons.mpr ⟨lw_p21, List.forall_mem_cons.mpr ⟨lw_p22, List.forall_mem_cons.mpr ⟨lw_p23, List.forall_mem_cons.mpr ⟨lw_p24, List.forall_mem_cons.mpr ⟨lw_p25, List.forall_mem_cons.mpr ⟨lw_p26, List.forall_mem_cons.mpr ⟨lw_p27, List.forall_mem_cons.mpr ⟨lw_p28, List.forall_mem_cons.mpr ⟨lw_p29, List.forall_mem_cons.mpr ⟨lw_p30, List.forall_mem_cons.mpr ⟨lw_p31, fun _ h => absurd h List.not_mem_nil⟩⟩⟩⟩⟩⟩⟩⟩⟩⟩⟩⟩⟩⟩⟩⟩
theorem lw_p32 : lw_okq (⟨"NoSquare$Picker", "look", "(II)V"⟩, 10) := ⟨⟨by decide +kernel, by decide +kernel⟩, List.mem_of_getElem? (i := 235) (by decide +kernel), List.mem_of_getElem? (i := 728) (by decide +kernel), List.mem_of_getElem? (i := 729) (by decide +kernel)⟩
theorem lw_p33 : lw_okq (⟨"NoSquare$Mover", "noteMove", "(II)V"⟩, 6) := ⟨⟨by decide +kernel, by decide +kernel⟩, List.mem_of_getElem? (i := 276) (by decide +kernel), List.mem_of_getElem? (i := 755) (by decide +kernel), List.mem_of_getElem? (i := 756) (by decide +kernel)⟩
theorem lw_p34 : lw_okq (⟨"NoSquare$Game", "setUp", "(LNoSquare$Grid;II)V"⟩, 7) := ⟨⟨by decide +kernel, by decide +kernel⟩, List.mem_of_getElem? (i := 304) (by decide +kernel), List.mem_of_getElem? (i := 767) (by decide +kernel), List.mem_of_getElem? (i := 768) (by decide +kernel)⟩
theorem lw_p35 : lw_okq (⟨"NoSquare$Game", "renumbered", "(I)I"⟩, 7) := ⟨⟨by decide +kernel, by decide +kernel⟩, List.mem_of_getElem? (i := 304) (by decide +kernel), List.mem_of_getElem? (i := 771) (by decide +kernel), List.mem_of_getElem? (i := 772) (by decide +kernel)⟩
theorem lw_p36 : lw_okq (⟨"NoSquare$Game", "anyWhole", "(I)Z"⟩, 7) := ⟨⟨by decide +kernel, by decide +kernel⟩, List.mem_of_getElem? (i := 304) (by decide +kernel), List.mem_of_getElem? (i := 775) (by decide +kernel), List.mem_of_getElem? (i := 776) (by decide +kernel)⟩
theorem lw_p37 : lw_okq (⟨"NoSquare$Game", "winningPlace", "(I)I"⟩, 7) := ⟨⟨by decide +kernel, by decide +kernel⟩, List.mem_of_getElem? (i := 304) (by decide +kernel), List.mem_of_getElem? (i := 779) (by decide +kernel), List.mem_of_getElem? (i := 780) (by decide +kernel)⟩
theorem lw_p38 : lw_okq (⟨"NoSquare$Game", "findBest", "(IZ)V"⟩, 7) := ⟨⟨by decide +kernel, by decide +kernel⟩, List.mem_of_getElem? (i := 304) (by decide +kernel), List.mem_of_getElem? (i := 794) (by decide +kernel), List.mem_of_getElem? (i := 795) (by decide +kernel)⟩
theorem lw_p39 : lw_okq (⟨"NoSquare$Game", "closingPlaces", "(I)I"⟩, 7) := ⟨⟨by decide +kernel, by decide +kernel⟩, List.mem_of_getElem? (i := 304) (by decide +kernel), List.mem_of_getElem? (i := 798) (by decide +kernel), List.mem_of_getElem? (i := 799) (by decide +kernel)⟩
theorem lw_p40 : lw_okq (⟨"NoSquare$Game", "madeBy", "(II)I"⟩, 7) := ⟨⟨by decide +kernel, by decide +kernel⟩, List.mem_of_getElem? (i := 304) (by decide +kernel), List.mem_of_getElem? (i := 802) (by decide +kernel), List.mem_of_getElem? (i := 803) (by decide +kernel)⟩
theorem lw_p41 : lw_okq (⟨"NoSquareModel", "firstDraft", "()V"⟩, 47) := ⟨⟨by decide +kernel, by decide +kernel⟩, List.mem_of_getElem? (i := 907) (by decide +kernel), List.mem_of_getElem? (i := 913) (by decide +kernel), List.mem_of_getElem? (i := 914) (by decide +kernel)⟩
theorem lw_p42 : lw_okq (⟨"NoSquareModel", "keepDraft", "()V"⟩, 47) := ⟨⟨by decide +kernel, by decide +kernel⟩, List.mem_of_getElem? (i := 907) (by decide +kernel), List.mem_of_getElem? (i := 917) (by decide +kernel), List.mem_of_getElem? (i := 918) (by decide +kernel)⟩
theorem lw_p43 : lw_okq (⟨"NoSquareModel", "findSquares", "()V"⟩, 47) := ⟨⟨by decide +kernel, by decide +kernel⟩, List.mem_of_getElem? (i := 907) (by decide +kernel), List.mem_of_getElem? (i := 921) (by decide +kernel), List.mem_of_getElem? (i := 922) (by decide +kernel)⟩
theorem lw_p44 : lw_okq (⟨"NoSquareModel", "rimOf", "(III)I"⟩, 47) := ⟨⟨by decide +kernel, by decide +kernel⟩, List.mem_of_getElem? (i := 907) (by decide +kernel), List.mem_of_getElem? (i := 925) (by decide +kernel), List.mem_of_getElem? (i := 926) (by decide +kernel)⟩
theorem lw_p45 : lw_okq (⟨"NoSquareModel", "acrossAt", "(II)I"⟩, 47) := ⟨⟨by decide +kernel, by decide +kernel⟩, List.mem_of_getElem? (i := 907) (by decide +kernel), List.mem_of_getElem? (i := 929) (by decide +kernel), List.mem_of_getElem? (i := 930) (by decide +kernel)⟩
theorem lw_p46 : lw_okq (⟨"NoSquareModel", "standsAt", "(II)I"⟩, 47) := ⟨⟨by decide +kernel, by decide +kernel⟩, List.mem_of_getElem? (i := 907) (by decide +kernel), List.mem_of_getElem? (i := 933) (by decide +kernel), List.mem_of_getElem? (i := 934) (by decide +kernel)⟩
theorem lw_p47 : lw_okq (⟨"NoSquareModel", "next", "()V"⟩, 47) := ⟨⟨by decide +kernel, by decide +kernel⟩, List.mem_of_getElem? (i := 907) (by decide +kernel), List.mem_of_getElem? (i := 1096) (by decide +kernel), List.mem_of_getElem? (i := 1097) (by decide +kernel)⟩
def lw_privs_3 : List (MethodName × Nat) := [(⟨"NoSquare$Picker", "look", "(II)V"⟩, 10), (⟨"NoSquare$Mover", "noteMove", "(II)V"⟩, 6), (⟨"NoSquare$Game", "setUp", "(LNoSquare$Grid;II)V"⟩, 7), (⟨"NoSquare$Game", "renumbered", "(I)I"⟩, 7), (⟨"NoSquare$Game", "anyWhole", "(I)Z"⟩, 7), (⟨"NoSquare$Game", "winningPlace", "(I)I"⟩, 7), (⟨"NoSquare$Game", "findBest", "(IZ)V"⟩, 7), (⟨"NoSquare$Game", "closingPlaces", "(I)I"⟩, 7), (⟨"NoSquare$Game", "madeBy", "(II)I"⟩, 7), (⟨"NoSquareModel", "firstDraft", "()V"⟩, 47), (⟨"NoSquareModel", "keepDraft", "()V"⟩, 47), (⟨"NoSquareModel", "findSquares", "()V"⟩, 47), (⟨"NoSquareModel", "rimOf", "(III)I"⟩, 47), (⟨"NoSquareModel", "acrossAt", "(II)I"⟩, 47), (⟨"NoSquareModel", "standsAt", "(II)I"⟩, 47), (⟨"NoSquareModel", "next", "()V"⟩, 47)]
theorem lw_r3 : ∀ q ∈ lw_privs_3, lw_okq q := List.forall_mem_cons.mpr ⟨lw_p32, List.forall_mem_cons.mpr ⟨lw_p33, List.forall_mem_cons.mpr ⟨lw_p34, List.forall_mem_cons.mpr ⟨lw_p35, List.forall_mem_cons.mpr ⟨lw_p36, List.forall_mem_cons.mpr ⟨lw_p37, List.forall_mem_cons.mpr ⟨lw_p38, List.forall_mem_cons.mpr ⟨lw_p39, List.forall_mem_cons.mpr ⟨lw_p40, List.forall_mem_cons.mpr ⟨lw_p41, List.forall_mem_cons.mpr ⟨lw_p42, List.forall_mem_cons.mpr ⟨lw_p43, List.forall_mem_cons.mpr ⟨lw_p44, List.forall_mem_cons.mpr ⟨lw_p45, List.forall_mem_cons.mpr ⟨lw_p46, List.forall_mem_cons.mpr ⟨lw_p47, fun _ h => absurd h List.not_mem_nil⟩⟩⟩⟩⟩⟩⟩⟩⟩⟩⟩⟩⟩⟩⟩⟩
theorem lw_p48 : lw_okq (⟨"NoSquareModel", "look", "(I)I"⟩, 47) := ⟨⟨by decide +kernel, by decide +kernel⟩, List.mem_of_getElem? (i := 907) (by decide +kernel), List.mem_of_getElem? (i := 1100) (by decide +kernel), List.mem_of_getElem? (i := 1101) (by decide +kernel)⟩
theorem lw_p49 : lw_okq (⟨"NoSquareModel", "needs", "(ZI)V"⟩, 47) := ⟨⟨by decide +kernel, by decide +kernel⟩, List.mem_of_getElem? (i := 907) (by decide +kernel), List.mem_of_getElem? (i := 1108) (by decide +kernel), List.mem_of_getElem? (i := 1109) (by decide +kernel)⟩
theorem lw_p50 : lw_okq (⟨"NoSquareModel", "readLine", "()V"⟩, 47) := ⟨⟨by decide +kernel, by decide +kernel⟩, List.mem_of_getElem? (i := 907) (by decide +kernel), List.mem_of_getElem? (i := 1112) (by decide +kernel), List.mem_of_getElem? (i := 1113) (by decide +kernel)⟩
theorem lw_p51 : lw_okq (⟨"NoSquareModel", "lineNow", "()I"⟩, 47) := ⟨⟨by decide +kernel, by decide +kernel⟩, List.mem_of_getElem? (i := 907) (by decide +kernel), List.mem_of_getElem? (i := 1116) (by decide +kernel), List.mem_of_getElem? (i := 1117) (by decide +kernel)⟩
theorem lw_p52 : lw_okq (⟨"NoSquareModel", "is", "(IIII)Z"⟩, 47) := ⟨⟨by decide +kernel, by decide +kernel⟩, List.mem_of_getElem? (i := 907) (by decide +kernel), List.mem_of_getElem? (i := 1120) (by decide +kernel), List.mem_of_getElem? (i := 1121) (by decide +kernel)⟩
theorem lw_p53 : lw_okq (⟨"NoSquareModel", "readLineOf", "(I)V"⟩, 47) := ⟨⟨by decide +kernel, by decide +kernel⟩, List.mem_of_getElem? (i := 907) (by decide +kernel), List.mem_of_getElem? (i := 1124) (by decide +kernel), List.mem_of_getElem? (i := 1125) (by decide +kernel)⟩
theorem lw_p54 : lw_okq (⟨"NoSquareModel", "readNumber", "(II)I"⟩, 47) := ⟨⟨by decide +kernel, by decide +kernel⟩, List.mem_of_getElem? (i := 907) (by decide +kernel), List.mem_of_getElem? (i := 1128) (by decide +kernel), List.mem_of_getElem? (i := 1129) (by decide +kernel)⟩
theorem lw_p55 : lw_okq (⟨"NoSquareModel", "looked", "(II)I"⟩, 47) := ⟨⟨by decide +kernel, by decide +kernel⟩, List.mem_of_getElem? (i := 907) (by decide +kernel), List.mem_of_getElem? (i := 1132) (by decide +kernel), List.mem_of_getElem? (i := 1133) (by decide +kernel)⟩
theorem lw_p56 : lw_okq (⟨"NoSquareModel", "readGone", "()V"⟩, 47) := ⟨⟨by decide +kernel, by decide +kernel⟩, List.mem_of_getElem? (i := 907) (by decide +kernel), List.mem_of_getElem? (i := 1136) (by decide +kernel), List.mem_of_getElem? (i := 1137) (by decide +kernel)⟩
theorem lw_p57 : lw_okq (⟨"NoSquareModel", "lookedMatch", "()I"⟩, 47) := ⟨⟨by decide +kernel, by decide +kernel⟩, List.mem_of_getElem? (i := 907) (by decide +kernel), List.mem_of_getElem? (i := 1140) (by decide +kernel), List.mem_of_getElem? (i := 1141) (by decide +kernel)⟩
theorem lw_p58 : lw_okq (⟨"NoSquareModel", "readSizes", "()V"⟩, 47) := ⟨⟨by decide +kernel, by decide +kernel⟩, List.mem_of_getElem? (i := 907) (by decide +kernel), List.mem_of_getElem? (i := 1144) (by decide +kernel), List.mem_of_getElem? (i := 1145) (by decide +kernel)⟩
theorem lw_p59 : lw_okq (⟨"NoSquareModel", "isMatch", "(I)Z"⟩, 47) := ⟨⟨by decide +kernel, by decide +kernel⟩, List.mem_of_getElem? (i := 907) (by decide +kernel), List.mem_of_getElem? (i := 1167) (by decide +kernel), List.mem_of_getElem? (i := 1168) (by decide +kernel)⟩
theorem lw_p60 : lw_okq (⟨"NoSquareModel", "wholeOf", "(II)I"⟩, 47) := ⟨⟨by decide +kernel, by decide +kernel⟩, List.mem_of_getElem? (i := 907) (by decide +kernel), List.mem_of_getElem? (i := 1176) (by decide +kernel), List.mem_of_getElem? (i := 1177) (by decide +kernel)⟩
theorem lw_p61 : lw_okq (⟨"NoSquareModel", "leftOf", "(I)I"⟩, 47) := ⟨⟨by decide +kernel, by decide +kernel⟩, List.mem_of_getElem? (i := 907) (by decide +kernel), List.mem_of_getElem? (i := 1184) (by decide +kernel), List.mem_of_getElem? (i := 1185) (by decide +kernel)⟩
theorem lw_p62 : lw_okq (⟨"NoSquareModel", "doesCount", "(I)Z"⟩, 47) := ⟨⟨by decide +kernel, by decide +kernel⟩, List.mem_of_getElem? (i := 907) (by decide +kernel), List.mem_of_getElem? (i := 1188) (by decide +kernel), List.mem_of_getElem? (i := 1189) (by decide +kernel)⟩
theorem lw_p63 : lw_okq (⟨"NoSquareModel", "doesLie", "(I)Z"⟩, 47) := ⟨⟨by decide +kernel, by decide +kernel⟩, List.mem_of_getElem? (i := 907) (by decide +kernel), List.mem_of_getElem? (i := 1196) (by decide +kernel), List.mem_of_getElem? (i := 1197) (by decide +kernel)⟩
def lw_privs_4 : List (MethodName × Nat) := [(⟨"NoSquareModel", "look", "(I)I"⟩, 47), (⟨"NoSquareModel", "needs", "(ZI)V"⟩, 47), (⟨"NoSquareModel", "readLine", "()V"⟩, 47), (⟨"NoSquareModel", "lineNow", "()I"⟩, 47), (⟨"NoSquareModel", "is", "(IIII)Z"⟩, 47), (⟨"NoSquareModel", "readLineOf", "(I)V"⟩, 47), (⟨"NoSquareModel", "readNumber", "(II)I"⟩, 47), (⟨"NoSquareModel", "looked", "(II)I"⟩, 47), (⟨"NoSquareModel", "readGone", "()V"⟩, 47), (⟨"NoSquareModel", "lookedMatch", "()I"⟩, 47), (⟨"NoSquareModel", "readSizes", "()V"⟩, 47), (⟨"NoSquareModel", "isMatch", "(I)Z"⟩, 47), (⟨"NoSquareModel", "wholeOf", "(II)I"⟩, 47), (⟨"NoSquareModel", "leftOf", "(I)I"⟩, 47), (⟨"NoSquareModel", "doesCount", "(I)Z"⟩, 47), (⟨"NoSquareModel", "doesLie", "(I)Z"⟩, 47)]
theorem lw_r4 : ∀ q ∈ lw_privs_4, lw_okq q := List.forall_mem_cons.mpr ⟨lw_p48, List.forall_mem_cons.mpr ⟨lw_p49, List.forall_mem_cons.mpr ⟨lw_p50, List.forall_mem_cons.mpr ⟨lw_p51, List.forall_mem_cons.mpr ⟨lw_p52, List.forall_mem_cons.mpr ⟨lw_p53, List.forall_mem_cons.mpr ⟨lw_p54, List.forall_mem_cons.mpr ⟨lw_p55, List.forall_mem_cons.mpr ⟨lw_p56, List.forall_mem_cons.mpr ⟨lw_p57, List.forall_mem_cons.mpr ⟨lw_p58, List.forall_mem_cons.mpr ⟨lw_p59, List.forall_mem_cons.mpr ⟨lw_p60, List.forall_mem_cons.mpr ⟨lw_p61, List.forall_mem_cons.mpr ⟨lw_p62, List.forall_mem_cons.mpr ⟨lw_p63, fun _ h => absurd h List.not_mem_nil⟩⟩⟩⟩⟩⟩⟩⟩⟩⟩⟩⟩⟩⟩⟩⟩
theorem lw_p64 : lw_okq (⟨"NoSquareModel", "findBreaks", "(Z)V"⟩, 47) := ⟨⟨by decide +kernel, by decide +kernel⟩, List.mem_of_getElem? (i := 907) (by decide +kernel), List.mem_of_getElem? (i := 1218) (by decide +kernel), List.mem_of_getElem? (i := 1219) (by decide +kernel)⟩
theorem lw_p65 : lw_okq (⟨"NoSquareModel", "enters", "(I)V"⟩, 47) := ⟨⟨by decide +kernel, by decide +kernel⟩, List.mem_of_getElem? (i := 907) (by decide +kernel), List.mem_of_getElem? (i := 1223) (by decide +kernel), List.mem_of_getElem? (i := 1224) (by decide +kernel)⟩
theorem lw_p66 : lw_okq (⟨"NoSquareModel", "firstWhole", "(I)I"⟩, 47) := ⟨⟨by decide +kernel, by decide +kernel⟩, List.mem_of_getElem? (i := 907) (by decide +kernel), List.mem_of_getElem? (i := 1227) (by decide +kernel), List.mem_of_getElem? (i := 1228) (by decide +kernel)⟩
theorem lw_p67 : lw_okq (⟨"NoSquareModel", "takesSet", "(II)V"⟩, 47) := ⟨⟨by decide +kernel, by decide +kernel⟩, List.mem_of_getElem? (i := 907) (by decide +kernel), List.mem_of_getElem? (i := 1231) (by decide +kernel), List.mem_of_getElem? (i := 1232) (by decide +kernel)⟩
theorem lw_p68 : lw_okq (⟨"NoSquareModel", "isSet", "(I)Z"⟩, 47) := ⟨⟨by decide +kernel, by decide +kernel⟩, List.mem_of_getElem? (i := 907) (by decide +kernel), List.mem_of_getElem? (i := 1247) (by decide +kernel), List.mem_of_getElem? (i := 1248) (by decide +kernel)⟩
theorem lw_p69 : lw_okq (⟨"NoSquareModel", "turnedSet", "(II)I"⟩, 47) := ⟨⟨by decide +kernel, by decide +kernel⟩, List.mem_of_getElem? (i := 907) (by decide +kernel), List.mem_of_getElem? (i := 1251) (by decide +kernel), List.mem_of_getElem? (i := 1252) (by decide +kernel)⟩
theorem lw_p70 : lw_okq (⟨"NoSquareModel", "turned", "(II)I"⟩, 47) := ⟨⟨by decide +kernel, by decide +kernel⟩, List.mem_of_getElem? (i := 907) (by decide +kernel), List.mem_of_getElem? (i := 1255) (by decide +kernel), List.mem_of_getElem? (i := 1256) (by decide +kernel)⟩
theorem lw_p71 : lw_okq (⟨"NoSquareModel", "matchAt", "(II)I"⟩, 47) := ⟨⟨by decide +kernel, by decide +kernel⟩, List.mem_of_getElem? (i := 907) (by decide +kernel), List.mem_of_getElem? (i := 1259) (by decide +kernel), List.mem_of_getElem? (i := 1260) (by decide +kernel)⟩
theorem lw_p72 : lw_okq (⟨"NoSquareModel", "findSome", "(I)V"⟩, 47) := ⟨⟨by decide +kernel, by decide +kernel⟩, List.mem_of_getElem? (i := 907) (by decide +kernel), List.mem_of_getElem? (i := 1268) (by decide +kernel), List.mem_of_getElem? (i := 1269) (by decide +kernel)⟩
theorem lw_p73 : lw_okq (⟨"NoSquareModel", "firstOf", "(I)V"⟩, 47) := ⟨⟨by decide +kernel, by decide +kernel⟩, List.mem_of_getElem? (i := 907) (by decide +kernel), List.mem_of_getElem? (i := 1272) (by decide +kernel), List.mem_of_getElem? (i := 1273) (by decide +kernel)⟩
theorem lw_p74 : lw_okq (⟨"NoSquareModel", "setNow", "(I)I"⟩, 47) := ⟨⟨by decide +kernel, by decide +kernel⟩, List.mem_of_getElem? (i := 907) (by decide +kernel), List.mem_of_getElem? (i := 1276) (by decide +kernel), List.mem_of_getElem? (i := 1277) (by decide +kernel)⟩
theorem lw_p75 : lw_okq (⟨"NoSquareModel", "nextOf", "(I)Z"⟩, 47) := ⟨⟨by decide +kernel, by decide +kernel⟩, List.mem_of_getElem? (i := 907) (by decide +kernel), List.mem_of_getElem? (i := 1280) (by decide +kernel), List.mem_of_getElem? (i := 1281) (by decide +kernel)⟩
theorem lw_p76 : lw_okq (⟨"NoSquareModel", "startsGather", "()V"⟩, 47) := ⟨⟨by decide +kernel, by decide +kernel⟩, List.mem_of_getElem? (i := 907) (by decide +kernel), List.mem_of_getElem? (i := 1289) (by decide +kernel), List.mem_of_getElem? (i := 1290) (by decide +kernel)⟩
theorem lw_p77 : lw_okq (⟨"NoSquareModel", "gathers", "(I)V"⟩, 47) := ⟨⟨by decide +kernel, by decide +kernel⟩, List.mem_of_getElem? (i := 907) (by decide +kernel), List.mem_of_getElem? (i := 1293) (by decide +kernel), List.mem_of_getElem? (i := 1294) (by decide +kernel)⟩
theorem lw_p78 : lw_okq (⟨"NoSquareModel", "allOutside", "()I"⟩, 47) := ⟨⟨by decide +kernel, by decide +kernel⟩, List.mem_of_getElem? (i := 907) (by decide +kernel), List.mem_of_getElem? (i := 1301) (by decide +kernel), List.mem_of_getElem? (i := 1302) (by decide +kernel)⟩
theorem lw_p79 : lw_okq (⟨"NoSquareModel", "ofRow", "(I)I"⟩, 47) := ⟨⟨by decide +kernel, by decide +kernel⟩, List.mem_of_getElem? (i := 907) (by decide +kernel), List.mem_of_getElem? (i := 1309) (by decide +kernel), List.mem_of_getElem? (i := 1310) (by decide +kernel)⟩
def lw_privs_5 : List (MethodName × Nat) := [(⟨"NoSquareModel", "findBreaks", "(Z)V"⟩, 47), (⟨"NoSquareModel", "enters", "(I)V"⟩, 47), (⟨"NoSquareModel", "firstWhole", "(I)I"⟩, 47), (⟨"NoSquareModel", "takesSet", "(II)V"⟩, 47), (⟨"NoSquareModel", "isSet", "(I)Z"⟩, 47), (⟨"NoSquareModel", "turnedSet", "(II)I"⟩, 47), (⟨"NoSquareModel", "turned", "(II)I"⟩, 47), (⟨"NoSquareModel", "matchAt", "(II)I"⟩, 47), (⟨"NoSquareModel", "findSome", "(I)V"⟩, 47), (⟨"NoSquareModel", "firstOf", "(I)V"⟩, 47), (⟨"NoSquareModel", "setNow", "(I)I"⟩, 47), (⟨"NoSquareModel", "nextOf", "(I)Z"⟩, 47), (⟨"NoSquareModel", "startsGather", "()V"⟩, 47), (⟨"NoSquareModel", "gathers", "(I)V"⟩, 47), (⟨"NoSquareModel", "allOutside", "()I"⟩, 47), (⟨"NoSquareModel", "ofRow", "(I)I"⟩, 47)]
theorem lw_r5 : ∀ q ∈ lw_privs_5, lw_okq q := List.forall_mem_cons.mpr ⟨lw_p64, List.forall_mem_cons.mpr ⟨lw_p65, List.forall_mem_cons.mpr ⟨lw_p66, List.forall_mem_cons.mpr ⟨lw_p67, List.forall_mem_cons.mpr ⟨lw_p68, List.forall_mem_cons.mpr ⟨lw_p69, List.forall_mem_cons.mpr ⟨lw_p70, List.forall_mem_cons.mpr ⟨lw_p71, List.forall_mem_cons.mpr ⟨lw_p72, List.forall_mem_cons.mpr ⟨lw_p73, List.forall_mem_cons.mpr ⟨lw_p74, List.forall_mem_cons.mpr ⟨lw_p75, List.forall_mem_cons.mpr ⟨lw_p76, List.forall_mem_cons.mpr ⟨lw_p77, List.forall_mem_cons.mpr ⟨lw_p78, List.forall_mem_cons.mpr ⟨lw_p79, fun _ h => absurd h List.not_mem_nil⟩⟩⟩⟩⟩⟩⟩⟩⟩⟩⟩⟩⟩⟩⟩⟩
theorem lw_p80 : lw_okq (⟨"NoSquareModel", "winsBy", "(II)Z"⟩, 47) := ⟨⟨by decide +kernel, by decide +kernel⟩, List.mem_of_getElem? (i := 907) (by decide +kernel), List.mem_of_getElem? (i := 1313) (by decide +kernel), List.mem_of_getElem? (i := 1314) (by decide +kernel)⟩
theorem lw_p81 : lw_okq (⟨"NoSquareModel", "startsLaying", "()Z"⟩, 47) := ⟨⟨by decide +kernel, by decide +kernel⟩, List.mem_of_getElem? (i := 907) (by decide +kernel), List.mem_of_getElem? (i := 1321) (by decide +kernel), List.mem_of_getElem? (i := 1322) (by decide +kernel)⟩
theorem lw_p82 : lw_okq (⟨"NoSquareModel", "findGame", "(Z)V"⟩, 47) := ⟨⟨by decide +kernel, by decide +kernel⟩, List.mem_of_getElem? (i := 907) (by decide +kernel), List.mem_of_getElem? (i := 1325) (by decide +kernel), List.mem_of_getElem? (i := 1326) (by decide +kernel)⟩
theorem lw_p83 : lw_okq (⟨"NoSquareModel", "playedBy", "(IIZ)I"⟩, 47) := ⟨⟨by decide +kernel, by decide +kernel⟩, List.mem_of_getElem? (i := 907) (by decide +kernel), List.mem_of_getElem? (i := 1330) (by decide +kernel), List.mem_of_getElem? (i := 1331) (by decide +kernel)⟩
theorem lw_p84 : lw_okq (⟨"NoSquareModel", "boxedBy", "(II)I"⟩, 47) := ⟨⟨by decide +kernel, by decide +kernel⟩, List.mem_of_getElem? (i := 907) (by decide +kernel), List.mem_of_getElem? (i := 1334) (by decide +kernel), List.mem_of_getElem? (i := 1335) (by decide +kernel)⟩
theorem lw_p85 : lw_okq (⟨"NoSquareModel", "laidBy", "(II)I"⟩, 47) := ⟨⟨by decide +kernel, by decide +kernel⟩, List.mem_of_getElem? (i := 907) (by decide +kernel), List.mem_of_getElem? (i := 1338) (by decide +kernel), List.mem_of_getElem? (i := 1339) (by decide +kernel)⟩
theorem lw_p86 : lw_okq (⟨"NoSquareModel", "bestPlace", "(Z)I"⟩, 47) := ⟨⟨by decide +kernel, by decide +kernel⟩, List.mem_of_getElem? (i := 907) (by decide +kernel), List.mem_of_getElem? (i := 1342) (by decide +kernel), List.mem_of_getElem? (i := 1343) (by decide +kernel)⟩
theorem lw_p87 : lw_okq (⟨"NoSquareModel", "isSo", "(I)Z"⟩, 47) := ⟨⟨by decide +kernel, by decide +kernel⟩, List.mem_of_getElem? (i := 907) (by decide +kernel), List.mem_of_getElem? (i := 1376) (by decide +kernel), List.mem_of_getElem? (i := 1377) (by decide +kernel)⟩
theorem lw_p88 : lw_okq (⟨"NoSquareModel", "copies", "(II)V"⟩, 47) := ⟨⟨by decide +kernel, by decide +kernel⟩, List.mem_of_getElem? (i := 907) (by decide +kernel), List.mem_of_getElem? (i := 1390) (by decide +kernel), List.mem_of_getElem? (i := 1391) (by decide +kernel)⟩
def lw_privs_6 : List (MethodName × Nat) := [(⟨"NoSquareModel", "winsBy", "(II)Z"⟩, 47), (⟨"NoSquareModel", "startsLaying", "()Z"⟩, 47), (⟨"NoSquareModel", "findGame", "(Z)V"⟩, 47), (⟨"NoSquareModel", "playedBy", "(IIZ)I"⟩, 47), (⟨"NoSquareModel", "boxedBy", "(II)I"⟩, 47), (⟨"NoSquareModel", "laidBy", "(II)I"⟩, 47), (⟨"NoSquareModel", "bestPlace", "(Z)I"⟩, 47), (⟨"NoSquareModel", "isSo", "(I)Z"⟩, 47), (⟨"NoSquareModel", "copies", "(II)V"⟩, 47)]
theorem lw_r6 : ∀ q ∈ lw_privs_6, lw_okq q := List.forall_mem_cons.mpr ⟨lw_p80, List.forall_mem_cons.mpr ⟨lw_p81, List.forall_mem_cons.mpr ⟨lw_p82, List.forall_mem_cons.mpr ⟨lw_p83, List.forall_mem_cons.mpr ⟨lw_p84, List.forall_mem_cons.mpr ⟨lw_p85, List.forall_mem_cons.mpr ⟨lw_p86, List.forall_mem_cons.mpr ⟨lw_p87, List.forall_mem_cons.mpr ⟨lw_p88, fun _ h => absurd h List.not_mem_nil⟩⟩⟩⟩⟩⟩⟩⟩⟩
def lw_privs : List (MethodName × Nat) := lw_privs_1 ++ (lw_privs_2 ++ (lw_privs_3 ++ (lw_privs_4 ++ (lw_privs_5 ++ (lw_privs_6)))))
def lw_tbl : List Cond := k2_sels lw_privs ++ tables_1
theorem lw_privs_ok : ∀ q ∈ lw_privs, lw_okq q := by
  show ∀ q ∈ lw_privs_1 ++ (lw_privs_2 ++ (lw_privs_3 ++ (lw_privs_4 ++ (lw_privs_5 ++ (lw_privs_6))))), lw_okq q
  exact List.forall_mem_append.mpr ⟨lw_r1, List.forall_mem_append.mpr ⟨lw_r2, List.forall_mem_append.mpr ⟨lw_r3, List.forall_mem_append.mpr ⟨lw_r4, List.forall_mem_append.mpr ⟨lw_r5, lw_r6⟩⟩⟩⟩⟩
end
section
def RX0 : String := "NoSquare$Breaker"
def TX0 : u_T := fun k => match k with
  | 0 => ("NoSquare$Breaker", "best", "I", false)
  | 1 => ("NoSquare$Breaker", "least", "I", false)
  | 2 => ("NoSquare$Breaker", "ways", "I", false)
  | 3 => ("NoSquare$Breaker", "squares", "I", false)
  | 4 => ("NoSquare$Breaker", "costs", "[I", true)
  | 5 => ("NoSquare$Breaker", "rims", "[I", true)
  | 6 => ("NoSquare$Breaker", "touched", "[I", true)
  | 7 => ("NoSquare$Breaker", "upToCost", "[I", true)
  | _ => ("NoSquare$Breaker", "pick", "I", false)
def tyX0 : Nat → FieldType := fun k => match k with
  | 0 => .int
  | 1 => .int
  | 2 => .int
  | 3 => .int
  | 4 => .array .int
  | 5 => .array .int
  | 6 => .array .int
  | 7 => .array .int
  | _ => .int
abbrev wsX00 : List Cond := u_ws RX0 TX0 9
theorem nmX0 : ∀ a, a < 9 → ∀ b, b < 9 → a ≠ b → (TX0 a).2.1 ≠ (TX0 b).2.1 := by decide +kernel
theorem tyX0_ok : ∀ k, k < 9 → parseFieldDescriptor (TX0 k).2.2.1 = some (tyX0 k) := by decide +kernel
abbrev cX0_init : ByteArray := prog_2_method_1_code
def yX0_init : MethodName := ⟨RX0, "<init>", "()V"⟩
abbrev cX0_searchAll : ByteArray := prog_2_method_2_code
def yX0_searchAll : MethodName := ⟨RX0, "searchAll", "(LNoSquare$Grid;ILNoSquare$Table;)V"⟩
abbrev cX0_breakOn : ByteArray := prog_2_method_3_code
def yX0_breakOn : MethodName := ⟨RX0, "breakOn", "(LNoSquare$Breaker;IIIII)V"⟩
abbrev cX0_noteSet : ByteArray := prog_2_method_4_code
def yX0_noteSet : MethodName := ⟨RX0, "noteSet", "(II)V"⟩
abbrev cX0_costAtLeast : ByteArray := prog_2_method_5_code
def yX0_costAtLeast : MethodName := ⟨RX0, "costAtLeast", "(II)I"⟩
abbrev cX0_cheapestOf : ByteArray := prog_2_method_6_code
def yX0_cheapestOf : MethodName := ⟨RX0, "cheapestOf", "(I)I"⟩
def RX1 : String := "NoSquare$Game"
def TX1 : u_T := fun k => match k with
  | 0 => ("NoSquare$Game", "bestMatch", "I", false)
  | 1 => ("NoSquare$Game", "bestWorth", "I", false)
  | 2 => ("NoSquare$Game", "places", "I", false)
  | 3 => ("NoSquare$Game", "squares", "I", false)
  | 4 => ("NoSquare$Game", "matchAt", "[I", true)
  | 5 => ("NoSquare$Game", "needs", "[I", true)
  | _ => ("NoSquare$Game", "worth", "[B", true)
def tyX1 : Nat → FieldType := fun k => match k with
  | 0 => .int
  | 1 => .int
  | 2 => .int
  | 3 => .int
  | 4 => .array .int
  | 5 => .array .int
  | _ => .array .byte
abbrev wsX10 : List Cond := u_ws RX1 TX1 7
theorem nmX1 : ∀ a, a < 7 → ∀ b, b < 7 → a ≠ b → (TX1 a).2.1 ≠ (TX1 b).2.1 := by decide +kernel
theorem tyX1_ok : ∀ k, k < 7 → parseFieldDescriptor (TX1 k).2.2.1 = some (tyX1 k) := by decide +kernel
abbrev cX1_init : ByteArray := prog_3_method_1_code
def yX1_init : MethodName := ⟨RX1, "<init>", "()V"⟩
abbrev cX1_setUp : ByteArray := prog_3_method_2_code
def yX1_setUp : MethodName := ⟨RX1, "setUp", "(LNoSquare$Grid;II)V"⟩
abbrev cX1_renumbered : ByteArray := prog_3_method_3_code
def yX1_renumbered : MethodName := ⟨RX1, "renumbered", "(I)I"⟩
abbrev cX1_playTaking : ByteArray := prog_3_method_4_code
def yX1_playTaking : MethodName := ⟨RX1, "playTaking", "(LNoSquare$Grid;II)V"⟩
abbrev cX1_anyWhole : ByteArray := prog_3_method_5_code
def yX1_anyWhole : MethodName := ⟨RX1, "anyWhole", "(I)Z"⟩
abbrev cX1_winningPlace : ByteArray := prog_3_method_6_code
def yX1_winningPlace : MethodName := ⟨RX1, "winningPlace", "(I)I"⟩
abbrev cX1_playLaying : ByteArray := prog_3_method_7_code
def yX1_playLaying : MethodName := ⟨RX1, "playLaying", "(LNoSquare$Grid;IIZ)V"⟩
abbrev cX1_findBest : ByteArray := prog_3_method_8_code
def yX1_findBest : MethodName := ⟨RX1, "findBest", "(IZ)V"⟩
abbrev cX1_closingPlaces : ByteArray := prog_3_method_9_code
def yX1_closingPlaces : MethodName := ⟨RX1, "closingPlaces", "(I)I"⟩
abbrev cX1_madeBy : ByteArray := prog_3_method_10_code
def yX1_madeBy : MethodName := ⟨RX1, "madeBy", "(II)I"⟩
def RX2 : String := "NoSquare$Grid"
def TX2 : u_T := fun k => match k with
  | 0 => ("NoSquare$Grid", "wide", "I", false)
  | 1 => ("NoSquare$Grid", "high", "I", false)
  | 2 => ("NoSquare$Grid", "matches", "I", false)
  | 3 => ("NoSquare$Grid", "squares", "I", false)
  | 4 => ("NoSquare$Grid", "sizes", "[I", true)
  | 5 => ("NoSquare$Grid", "rows", "[I", true)
  | 6 => ("NoSquare$Grid", "columns", "[I", true)
  | 7 => ("NoSquare$Grid", "rims", "[I", true)
  | 8 => ("NoSquare$Grid", "ofSize", "[I", true)
  | 9 => ("NoSquare$Grid", "mirrored", "[I", true)
  | 10 => ("NoSquare$Grid", "flipped", "[I", true)
  | _ => ("NoSquare$Grid", "swapped", "[I", true)
def tyX2 : Nat → FieldType := fun k => match k with
  | 0 => .int
  | 1 => .int
  | 2 => .int
  | 3 => .int
  | 4 => .array .int
  | 5 => .array .int
  | 6 => .array .int
  | 7 => .array .int
  | 8 => .array .int
  | 9 => .array .int
  | 10 => .array .int
  | _ => .array .int
abbrev wsX20 : List Cond := u_ws RX2 TX2 12
theorem nmX2 : ∀ a, a < 12 → ∀ b, b < 12 → a ≠ b → (TX2 a).2.1 ≠ (TX2 b).2.1 := by decide +kernel
theorem tyX2_ok : ∀ k, k < 12 → parseFieldDescriptor (TX2 k).2.2.1 = some (tyX2 k) := by decide +kernel
abbrev cX2_init : ByteArray := prog_4_method_1_code
def yX2_init : MethodName := ⟨RX2, "<init>", "()V"⟩
abbrev cX2_form : ByteArray := prog_4_method_2_code
def yX2_form : MethodName := ⟨RX2, "form", "(II)V"⟩
abbrev cX2_placesOf : ByteArray := prog_4_method_3_code
def yX2_placesOf : MethodName := ⟨RX2, "placesOf", "(II)I"⟩
abbrev cX2_all : ByteArray := prog_4_method_4_code
def yX2_all : MethodName := ⟨RX2, "all", "()I"⟩
abbrev cX2_setOfAll : ByteArray := prog_4_method_5_code
def yX2_setOfAll : MethodName := ⟨RX2, "setOfAll", "(I)I"⟩
abbrev cX2_across : ByteArray := prog_4_method_6_code
def yX2_across : MethodName := ⟨RX2, "across", "(II)I"⟩
abbrev cX2_standing : ByteArray := prog_4_method_7_code
def yX2_standing : MethodName := ⟨RX2, "standing", "(II)I"⟩
abbrev cX2_addSquares : ByteArray := prog_4_method_8_code
def yX2_addSquares : MethodName := ⟨RX2, "addSquares", "(I)V"⟩
abbrev cX2_rimOf : ByteArray := prog_4_method_9_code
def yX2_rimOf : MethodName := ⟨RX2, "rimOf", "(III)I"⟩
abbrev cX2_turnPlaces : ByteArray := prog_4_method_10_code
def yX2_turnPlaces : MethodName := ⟨RX2, "turnPlaces", "(II)V"⟩
abbrev cX2_moved : ByteArray := prog_4_method_11_code
def yX2_moved : MethodName := ⟨RX2, "moved", "(I[I)I"⟩
abbrev cX2_mirrorsInto : ByteArray := prog_4_method_12_code
def yX2_mirrorsInto : MethodName := ⟨RX2, "mirrorsInto", "(II)Z"⟩
abbrev cX2_turnsInto : ByteArray := prog_4_method_13_code
def yX2_turnsInto : MethodName := ⟨RX2, "turnsInto", "(II)Z"⟩
abbrev cX2_wholeAmong : ByteArray := prog_4_method_14_code
def yX2_wholeAmong : MethodName := ⟨RX2, "wholeAmong", "(I)I"⟩
abbrev cX2_touching : ByteArray := prog_4_method_15_code
def yX2_touching : MethodName := ⟨RX2, "touching", "(II)I"⟩
def RX3 : String := "NoSquare$Mover"
def TX3 : u_T := fun k => match k with
  | 0 => ("NoSquare$Mover", "found", "I", false)
  | 1 => ("NoSquare$Mover", "firstTaken", "I", false)
  | 2 => ("NoSquare$Mover", "firstLaid", "I", false)
  | 3 => ("NoSquare$Mover", "takenSets", "[I", true)
  | 4 => ("NoSquare$Mover", "laidSets", "[I", true)
  | _ => ("NoSquare$Mover", "wholeThen", "[I", true)
def tyX3 : Nat → FieldType := fun k => match k with
  | 0 => .int
  | 1 => .int
  | 2 => .int
  | 3 => .array .int
  | 4 => .array .int
  | _ => .array .int
abbrev wsX30 : List Cond := u_ws RX3 TX3 6
theorem nmX3 : ∀ a, a < 6 → ∀ b, b < 6 → a ≠ b → (TX3 a).2.1 ≠ (TX3 b).2.1 := by decide +kernel
theorem tyX3_ok : ∀ k, k < 6 → parseFieldDescriptor (TX3 k).2.2.1 = some (tyX3 k) := by decide +kernel
abbrev cX3_init : ByteArray := prog_5_method_1_code
def yX3_init : MethodName := ⟨RX3, "<init>", "()V"⟩
abbrev cX3_moveAll : ByteArray := prog_5_method_2_code
def yX3_moveAll : MethodName := ⟨RX3, "moveAll", "(LNoSquare$Grid;IIII)V"⟩
abbrev cX3_noteMove : ByteArray := prog_5_method_3_code
def yX3_noteMove : MethodName := ⟨RX3, "noteMove", "(II)V"⟩
abbrev cX3_listSets : ByteArray := prog_5_method_4_code
def yX3_listSets : MethodName := ⟨RX3, "listSets", "([III)I"⟩
def RX4 : String := "NoSquare$Picker"
def TX4 : u_T := fun k => match k with
  | 0 => ("NoSquare$Picker", "found", "I", false)
  | 1 => ("NoSquare$Picker", "least", "I", false)
  | 2 => ("NoSquare$Picker", "common", "I", false)
  | 3 => ("NoSquare$Picker", "numbersLeft", "I", false)
  | 4 => ("NoSquare$Picker", "wants", "I", false)
  | 5 => ("NoSquare$Picker", "wantedOf", "[I", true)
  | 6 => ("NoSquare$Picker", "wanted", "[I", true)
  | 7 => ("NoSquare$Picker", "bits", "[I", true)
  | 8 => ("NoSquare$Picker", "touched", "[I", true)
  | _ => ("NoSquare$Picker", "counted", "I", false)
def tyX4 : Nat → FieldType := fun k => match k with
  | 0 => .int
  | 1 => .int
  | 2 => .int
  | 3 => .int
  | 4 => .int
  | 5 => .array .int
  | 6 => .array .int
  | 7 => .array .int
  | 8 => .array .int
  | _ => .int
abbrev wsX40 : List Cond := u_ws RX4 TX4 10
theorem nmX4 : ∀ a, a < 10 → ∀ b, b < 10 → a ≠ b → (TX4 a).2.1 ≠ (TX4 b).2.1 := by decide +kernel
theorem tyX4_ok : ∀ k, k < 10 → parseFieldDescriptor (TX4 k).2.2.1 = some (tyX4 k) := by decide +kernel
abbrev cX4_init : ByteArray := prog_6_method_1_code
def yX4_init : MethodName := ⟨RX4, "<init>", "()V"⟩
abbrev cX4_wantNothing : ByteArray := prog_6_method_2_code
def yX4_wantNothing : MethodName := ⟨RX4, "wantNothing", "()V"⟩
abbrev cX4_want : ByteArray := prog_6_method_3_code
def yX4_want : MethodName := ⟨RX4, "want", "(II)V"⟩
abbrev cX4_pickAll : ByteArray := prog_6_method_4_code
def yX4_pickAll : MethodName := ⟨RX4, "pickAll", "(LNoSquare$Grid;III)V"⟩
abbrev cX4_pickBelow : ByteArray := prog_6_method_5_code
def yX4_pickBelow : MethodName := ⟨RX4, "pickBelow", "(LNoSquare$Picker;IIII)V"⟩
abbrev cX4_look : ByteArray := prog_6_method_6_code
def yX4_look : MethodName := ⟨RX4, "look", "(II)V"⟩
def RX5 : String := "NoSquare$Sheet"
def TX5 : u_T := fun k => match k with
  | 0 => ("NoSquare$Sheet", "lane", "I", true)
  | _ => ("NoSquare$Sheet", "cells", "[I", true)
def tyX5 : Nat → FieldType := fun k => match k with
  | 0 => .int
  | _ => .array .int
abbrev wsX50 : List Cond := u_ws RX5 TX5 2
theorem nmX5 : ∀ a, a < 2 → ∀ b, b < 2 → a ≠ b → (TX5 a).2.1 ≠ (TX5 b).2.1 := by decide +kernel
theorem tyX5_ok : ∀ k, k < 2 → parseFieldDescriptor (TX5 k).2.2.1 = some (tyX5 k) := by decide +kernel
abbrev cX5_init : ByteArray := prog_7_method_1_code
def yX5_init : MethodName := ⟨RX5, "<init>", "(II)V"⟩
abbrev cX5_hasCell : ByteArray := prog_7_method_2_code
def yX5_hasCell : MethodName := ⟨RX5, "hasCell", "(I)Z"⟩
abbrev cX5_put : ByteArray := prog_7_method_3_code
def yX5_put : MethodName := ⟨RX5, "put", "(II)V"⟩
def RX6 : String := "NoSquare$Table"
def TX6 : u_T := fun k => match k with
  | 0 => ("NoSquare$Table", "lying", "I", false)
  | 1 => ("NoSquare$Table", "counting", "I", false)
  | 2 => ("NoSquare$Table", "costs", "[I", true)
  | _ => ("NoSquare$Table", "seen", "[I", true)
def tyX6 : Nat → FieldType := fun k => match k with
  | 0 => .int
  | 1 => .int
  | 2 => .array .int
  | _ => .array .int
abbrev wsX60 : List Cond := u_ws RX6 TX6 4
theorem nmX6 : ∀ a, a < 4 → ∀ b, b < 4 → a ≠ b → (TX6 a).2.1 ≠ (TX6 b).2.1 := by decide +kernel
theorem tyX6_ok : ∀ k, k < 4 → parseFieldDescriptor (TX6 k).2.2.1 = some (tyX6 k) := by decide +kernel
abbrev cX6_init : ByteArray := prog_8_method_1_code
def yX6_init : MethodName := ⟨RX6, "<init>", "()V"⟩
abbrev cX6_renew : ByteArray := prog_8_method_2_code
def yX6_renew : MethodName := ⟨RX6, "renew", "(I)V"⟩
abbrev cX6_becomes : ByteArray := prog_8_method_3_code
def yX6_becomes : MethodName := ⟨RX6, "becomes", "(LNoSquare$Table;)V"⟩
abbrev cX6_sizesSeen : ByteArray := prog_8_method_4_code
def yX6_sizesSeen : MethodName := ⟨RX6, "sizesSeen", "()I"⟩
abbrev cX6_costsLying : ByteArray := prog_8_method_5_code
def yX6_costsLying : MethodName := ⟨RX6, "costsLying", "()I"⟩
def RX7 : String := "NoSquare$Tape"
def TX7 : u_T := fun k => match k with
  | 0 => ("NoSquare$Tape", "bytes", "[B", true)
  | 1 => ("NoSquare$Tape", "length", "I", false)
  | 2 => ("NoSquare$Tape", "kind", "I", false)
  | 3 => ("NoSquare$Tape", "start", "I", false)
  | 4 => ("NoSquare$Tape", "value", "I", false)
  | _ => ("NoSquare$Tape", "at", "I", false)
def tyX7 : Nat → FieldType := fun k => match k with
  | 0 => .array .byte
  | 1 => .int
  | 2 => .int
  | 3 => .int
  | 4 => .int
  | _ => .int
abbrev wsX70 : List Cond := u_ws RX7 TX7 6
theorem nmX7 : ∀ a, a < 6 → ∀ b, b < 6 → a ≠ b → (TX7 a).2.1 ≠ (TX7 b).2.1 := by decide +kernel
theorem tyX7_ok : ∀ k, k < 6 → parseFieldDescriptor (TX7 k).2.2.1 = some (tyX7 k) := by decide +kernel
abbrev cX7_init : ByteArray := prog_9_method_1_code
def yX7_init : MethodName := ⟨RX7, "<init>", "()V"⟩
abbrev cX7_append : ByteArray := prog_9_method_2_code
def yX7_append : MethodName := ⟨RX7, "append", "(J)Z"⟩
abbrev cX7_rewind : ByteArray := prog_9_method_3_code
def yX7_rewind : MethodName := ⟨RX7, "rewind", "()V"⟩
abbrev cX7_step : ByteArray := prog_9_method_4_code
def yX7_step : MethodName := ⟨RX7, "step", "()V"⟩
abbrev cX7_pass : ByteArray := prog_9_method_5_code
def yX7_pass : MethodName := ⟨RX7, "pass", "(CC)V"⟩
abbrev cX7_takeNumber : ByteArray := prog_9_method_6_code
def yX7_takeNumber : MethodName := ⟨RX7, "takeNumber", "()V"⟩
abbrev cX7_says : ByteArray := prog_9_method_7_code
def yX7_says : MethodName := ⟨RX7, "says", "(Ljava/lang/String;)Z"⟩
def RX8 : String := "NoSquare$Telling"
def TX8 : u_T := fun k => match k with
  | 0 => ("NoSquare$Telling", "tape", "LNoSquare$Tape;", true)
  | 1 => ("NoSquare$Telling", "draft", "LNoSquare$Table;", true)
  | 2 => ("NoSquare$Telling", "wide", "I", false)
  | 3 => ("NoSquare$Telling", "high", "I", false)
  | 4 => ("NoSquare$Telling", "lines", "I", false)
  | 5 => ("NoSquare$Telling", "faultFound", "I", false)
  | 6 => ("NoSquare$Telling", "place", "I", false)
  | 7 => ("NoSquare$Telling", "gridTold", "Z", false)
  | 8 => ("NoSquare$Telling", "goneTold", "I", false)
  | 9 => ("NoSquare$Telling", "costsTold", "I", false)
  | 10 => ("NoSquare$Telling", "sizesTold", "I", false)
  | _ => ("NoSquare$Telling", "seenTold", "I", false)
def tyX8 : Nat → FieldType := fun k => match k with
  | 0 => .object "NoSquare$Tape"
  | 1 => .object "NoSquare$Table"
  | 2 => .int
  | 3 => .int
  | 4 => .int
  | 5 => .int
  | 6 => .int
  | 7 => .boolean
  | 8 => .int
  | 9 => .int
  | 10 => .int
  | _ => .int
abbrev wsX80 : List Cond := u_ws RX8 TX8 12
theorem nmX8 : ∀ a, a < 12 → ∀ b, b < 12 → a ≠ b → (TX8 a).2.1 ≠ (TX8 b).2.1 := by decide +kernel
theorem tyX8_ok : ∀ k, k < 12 → parseFieldDescriptor (TX8 k).2.2.1 = some (tyX8 k) := by decide +kernel
abbrev cX8_init : ByteArray := prog_10_method_1_code
def yX8_init : MethodName := ⟨RX8, "<init>", "(LNoSquare$Tape;)V"⟩
abbrev cX8_tell : ByteArray := prog_10_method_2_code
def yX8_tell : MethodName := ⟨RX8, "tell", "()Z"⟩
abbrev cX8_begin : ByteArray := prog_10_method_3_code
def yX8_begin : MethodName := ⟨RX8, "begin", "()V"⟩
abbrev cX8_finish : ByteArray := prog_10_method_4_code
def yX8_finish : MethodName := ⟨RX8, "finish", "()Z"⟩
abbrev cX8_refuse : ByteArray := prog_10_method_5_code
def yX8_refuse : MethodName := ⟨RX8, "refuse", "(I)Z"⟩
abbrev cX8_tellLine : ByteArray := prog_10_method_6_code
def yX8_tellLine : MethodName := ⟨RX8, "tellLine", "()Z"⟩
abbrev cX8_misfit : ByteArray := prog_10_method_7_code
def yX8_misfit : MethodName := ⟨RX8, "misfit", "()I"⟩
abbrev cX8_tellGrid : ByteArray := prog_10_method_8_code
def yX8_tellGrid : MethodName := ⟨RX8, "tellGrid", "()Z"⟩
abbrev cX8_tellGone : ByteArray := prog_10_method_9_code
def yX8_tellGone : MethodName := ⟨RX8, "tellGone", "()Z"⟩
abbrev cX8_tellSizes : ByteArray := prog_10_method_10_code
def yX8_tellSizes : MethodName := ⟨RX8, "tellSizes", "()Z"⟩
abbrev cX8_tellCost : ByteArray := prog_10_method_11_code
def yX8_tellCost : MethodName := ⟨RX8, "tellCost", "()Z"⟩
abbrev cX8_tellSeen : ByteArray := prog_10_method_12_code
def yX8_tellSeen : MethodName := ⟨RX8, "tellSeen", "()Z"⟩
abbrev cX8_nextNumber : ByteArray := prog_10_method_13_code
def yX8_nextNumber : MethodName := ⟨RX8, "nextNumber", "(III)Z"⟩
abbrev cX8_moreNumbers : ByteArray := prog_10_method_14_code
def yX8_moreNumbers : MethodName := ⟨RX8, "moreNumbers", "(III)Z"⟩
abbrev cX8_isNumber : ByteArray := prog_10_method_15_code
def yX8_isNumber : MethodName := ⟨RX8, "isNumber", "(III)Z"⟩
abbrev cX8_nextStop : ByteArray := prog_10_method_16_code
def yX8_nextStop : MethodName := ⟨RX8, "nextStop", "()Z"⟩
def RX9 : String := "NoSquare"
def TX9 : u_T := fun k => match k with
  | 0 => ("NoSquare", "grid", "LNoSquare$Grid;", true)
  | 1 => ("NoSquare", "table", "LNoSquare$Table;", true)
  | 2 => ("NoSquare", "tape", "LNoSquare$Tape;", true)
  | 3 => ("NoSquare", "telling", "LNoSquare$Telling;", true)
  | 4 => ("NoSquare", "breaker", "LNoSquare$Breaker;", true)
  | 5 => ("NoSquare", "picker", "LNoSquare$Picker;", true)
  | 6 => ("NoSquare", "mover", "LNoSquare$Mover;", true)
  | 7 => ("NoSquare", "game", "LNoSquare$Game;", true)
  | 8 => ("NoSquare", "images", "[LNoSquare$Table;", true)
  | 9 => ("NoSquare", "sheets", "[LNoSquare$Sheet;", true)
  | 10 => ("NoSquare", "sameCosts", "LNoSquare$Table;", true)
  | 11 => ("NoSquare", "kept", "I", false)
  | _ => ("NoSquare", "tornFault", "I", false)
def tyX9 : Nat → FieldType := fun k => match k with
  | 0 => .object "NoSquare$Grid"
  | 1 => .object "NoSquare$Table"
  | 2 => .object "NoSquare$Tape"
  | 3 => .object "NoSquare$Telling"
  | 4 => .object "NoSquare$Breaker"
  | 5 => .object "NoSquare$Picker"
  | 6 => .object "NoSquare$Mover"
  | 7 => .object "NoSquare$Game"
  | 8 => .array (.object "NoSquare$Table")
  | 9 => .array (.object "NoSquare$Sheet")
  | 10 => .object "NoSquare$Table"
  | 11 => .int
  | _ => .int
abbrev wsX90 : List Cond := u_ws RX9 TX9 13
theorem nmX9 : ∀ a, a < 13 → ∀ b, b < 13 → a ≠ b → (TX9 a).2.1 ≠ (TX9 b).2.1 := by decide +kernel
theorem tyX9_ok : ∀ k, k < 13 → parseFieldDescriptor (TX9 k).2.2.1 = some (tyX9 k) := by decide +kernel
abbrev cX9_init : ByteArray := prog_1_method_1_code
def yX9_init : MethodName := ⟨RX9, "<init>", "()V"⟩
abbrev cX9_feed : ByteArray := prog_1_method_2_code
def yX9_feed : MethodName := ⟨RX9, "feed", "(J)I"⟩
abbrev cX9_end : ByteArray := prog_1_method_3_code
def yX9_end : MethodName := ⟨RX9, "end", "(I)I"⟩
abbrev cX9_text : ByteArray := prog_1_method_4_code
def yX9_text : MethodName := ⟨RX9, "text", "()I"⟩
abbrev cX9_fault : ByteArray := prog_1_method_5_code
def yX9_fault : MethodName := ⟨RX9, "fault", "()I"⟩
abbrev cX9_rule : ByteArray := prog_1_method_6_code
def yX9_rule : MethodName := ⟨RX9, "rule", "(I)I"⟩
abbrev cX9_square : ByteArray := prog_1_method_7_code
def yX9_square : MethodName := ⟨RX9, "square", "(II)I"⟩
abbrev cX9_cost : ByteArray := prog_1_method_8_code
def yX9_cost : MethodName := ⟨RX9, "cost", "(I)I"⟩
abbrev cX9_whole : ByteArray := prog_1_method_9_code
def yX9_whole : MethodName := ⟨RX9, "whole", "(I)I"⟩
abbrev cX9_left : ByteArray := prog_1_method_10_code
def yX9_left : MethodName := ⟨RX9, "left", "()I"⟩
abbrev cX9_take : ByteArray := prog_1_method_11_code
def yX9_take : MethodName := ⟨RX9, "take", "(I)I"⟩
abbrev cX9_lie : ByteArray := prog_1_method_12_code
def yX9_lie : MethodName := ⟨RX9, "lie", "(I)I"⟩
abbrev cX9_price : ByteArray := prog_1_method_13_code
def yX9_price : MethodName := ⟨RX9, "price", "(II)I"⟩
abbrev cX9_counts : ByteArray := prog_1_method_14_code
def yX9_counts : MethodName := ⟨RX9, "counts", "(IZ)I"⟩
abbrev cX9_fewest : ByteArray := prog_1_method_15_code
def yX9_fewest : MethodName := ⟨RX9, "fewest", "(I)I"⟩
abbrev cX9_cheapest : ByteArray := prog_1_method_16_code
def yX9_cheapest : MethodName := ⟨RX9, "cheapest", "(I)I"⟩
abbrev cX9_without : ByteArray := prog_1_method_17_code
def yX9_without : MethodName := ⟨RX9, "without", "(I)I"⟩
abbrev cX9_alike : ByteArray := prog_1_method_18_code
def yX9_alike : MethodName := ⟨RX9, "alike", "(II)I"⟩
abbrev cX9_between : ByteArray := prog_1_method_19_code
def yX9_between : MethodName := ⟨RX9, "between", "(I)I"⟩
abbrev cX9_just : ByteArray := prog_1_method_20_code
def yX9_just : MethodName := ⟨RX9, "just", "(III)I"⟩
abbrev cX9_riddle : ByteArray := prog_1_method_21_code
def yX9_riddle : MethodName := ⟨RX9, "riddle", "(III)I"⟩
abbrev cX9_taking : ByteArray := prog_1_method_22_code
def yX9_taking : MethodName := ⟨RX9, "taking", "(I)I"⟩
abbrev cX9_laying : ByteArray := prog_1_method_23_code
def yX9_laying : MethodName := ⟨RX9, "laying", "(I)I"⟩
abbrev cX9_boxes : ByteArray := prog_1_method_24_code
def yX9_boxes : MethodName := ⟨RX9, "boxes", "(I)I"⟩
abbrev cX9_mean : ByteArray := prog_1_method_25_code
def yX9_mean : MethodName := ⟨RX9, "mean", "(I)J"⟩
abbrev cX9_chance : ByteArray := prog_1_method_26_code
def yX9_chance : MethodName := ⟨RX9, "chance", "(I)J"⟩
abbrev cX9_see : ByteArray := prog_1_method_27_code
def yX9_see : MethodName := ⟨RX9, "see", "(II)I"⟩
abbrev cX9_gone : ByteArray := prog_1_method_28_code
def yX9_gone : MethodName := ⟨RX9, "gone", "(II)I"⟩
abbrev cX9_play : ByteArray := prog_1_method_29_code
def yX9_play : MethodName := ⟨RX9, "play", "(II)I"⟩
abbrev cX9_keep : ByteArray := prog_1_method_30_code
def yX9_keep : MethodName := ⟨RX9, "keep", "(I)I"⟩
abbrev cX9_back : ByteArray := prog_1_method_31_code
def yX9_back : MethodName := ⟨RX9, "back", "(I)I"⟩
abbrev cX9_sheet : ByteArray := prog_1_method_32_code
def yX9_sheet : MethodName := ⟨RX9, "sheet", "(III)I"⟩
abbrev cX9_lay : ByteArray := prog_1_method_33_code
def yX9_lay : MethodName := ⟨RX9, "lay", "(III)I"⟩
abbrev cX9_read : ByteArray := prog_1_method_34_code
def yX9_read : MethodName := ⟨RX9, "read", "(IIII)I"⟩
abbrev cX9_torn : ByteArray := prog_1_method_35_code
def yX9_torn : MethodName := ⟨RX9, "torn", "()I"⟩
abbrev cX9_count : ByteArray := prog_1_method_36_code
def yX9_count : MethodName := ⟨RX9, "count", "(I)I"⟩
abbrev cX9_isMatch : ByteArray := prog_1_method_37_code
def yX9_isMatch : MethodName := ⟨RX9, "isMatch", "(I)Z"⟩
abbrev cX9_isSize : ByteArray := prog_1_method_38_code
def yX9_isSize : MethodName := ⟨RX9, "isSize", "(I)Z"⟩
abbrev cX9_isImage : ByteArray := prog_1_method_39_code
def yX9_isImage : MethodName := ⟨RX9, "isImage", "(I)Z"⟩
abbrev cX9_isSheet : ByteArray := prog_1_method_40_code
def yX9_isSheet : MethodName := ⟨RX9, "isSheet", "(I)Z"⟩
abbrev cX9_isLane : ByteArray := prog_1_method_41_code
def yX9_isLane : MethodName := ⟨RX9, "isLane", "(I)Z"⟩
abbrev cX9_lies : ByteArray := prog_1_method_42_code
def yX9_lies : MethodName := ⟨RX9, "lies", "(I)Z"⟩
abbrev cX9_takeOne : ByteArray := prog_1_method_43_code
def yX9_takeOne : MethodName := ⟨RX9, "takeOne", "(I)I"⟩
abbrev cX9_canBeLaid : ByteArray := prog_1_method_44_code
def yX9_canBeLaid : MethodName := ⟨RX9, "canBeLaid", "(I)Z"⟩
abbrev cX9_countedSquares : ByteArray := prog_1_method_45_code
def yX9_countedSquares : MethodName := ⟨RX9, "countedSquares", "()I"⟩
abbrev cX9_leftSquares : ByteArray := prog_1_method_46_code
def yX9_leftSquares : MethodName := ⟨RX9, "leftSquares", "(I)I"⟩
abbrev cX9_leftOf : ByteArray := prog_1_method_47_code
def yX9_leftOf : MethodName := ⟨RX9, "leftOf", "(I)I"⟩
abbrev cX9_waysWithout : ByteArray := prog_1_method_48_code
def yX9_waysWithout : MethodName := ⟨RX9, "waysWithout", "(LNoSquare$Grid;IIII)J"⟩
abbrev cX9_inLowestTerms : ByteArray := prog_1_method_49_code
def yX9_inLowestTerms : MethodName := ⟨RX9, "inLowestTerms", "(JII)J"⟩
def RX10 : String := "NoSquareModel"
def TX10 : u_T := fun k => match k with
  | 0 => ("NoSquareModel", "st", "[I", true)
  | 1 => ("NoSquareModel", "isKept", "[Z", true)
  | 2 => ("NoSquareModel", "wide", "I", false)
  | 3 => ("NoSquareModel", "high", "I", false)
  | 4 => ("NoSquareModel", "matches", "I", false)
  | 5 => ("NoSquareModel", "squares", "I", false)
  | 6 => ("NoSquareModel", "sizeOf", "[I", true)
  | 7 => ("NoSquareModel", "rowOf", "[I", true)
  | 8 => ("NoSquareModel", "placeOf", "[I", true)
  | 9 => ("NoSquareModel", "setOf", "[I", true)
  | 10 => ("NoSquareModel", "dWide", "I", false)
  | 11 => ("NoSquareModel", "dHigh", "I", false)
  | 12 => ("NoSquareModel", "dGone", "I", false)
  | 13 => ("NoSquareModel", "dCost", "[I", true)
  | 14 => ("NoSquareModel", "dSizes", "I", false)
  | 15 => ("NoSquareModel", "dSeen", "[I", true)
  | 16 => ("NoSquareModel", "hasGrid", "Z", false)
  | 17 => ("NoSquareModel", "highest", "I", false)
  | 18 => ("NoSquareModel", "tape", "[I", true)
  | 19 => ("NoSquareModel", "taped", "I", false)
  | 20 => ("NoSquareModel", "pos", "I", false)
  | 21 => ("NoSquareModel", "from", "I", false)
  | 22 => ("NoSquareModel", "sort", "I", false)
  | 23 => ("NoSquareModel", "value", "I", false)
  | 24 => ("NoSquareModel", "fault", "I", false)
  | 25 => ("NoSquareModel", "wrongAt", "I", false)
  | 26 => ("NoSquareModel", "picked", "[I", true)
  | 27 => ("NoSquareModel", "tries", "[I", true)
  | 28 => ("NoSquareModel", "chosen", "[I", true)
  | 29 => ("NoSquareModel", "barred", "[I", true)
  | 30 => ("NoSquareModel", "spent", "[I", true)
  | 31 => ("NoSquareModel", "leastSpent", "I", false)
  | 32 => ("NoSquareModel", "leastSet", "I", false)
  | 33 => ("NoSquareModel", "leastMany", "I", false)
  | 34 => ("NoSquareModel", "some", "[I", true)
  | 35 => ("NoSquareModel", "someMany", "I", false)
  | 36 => ("NoSquareModel", "at", "[I", true)
  | 37 => ("NoSquareModel", "gathered", "I", false)
  | 38 => ("NoSquareModel", "leastOne", "I", false)
  | 39 => ("NoSquareModel", "inAll", "I", false)
  | 40 => ("NoSquareModel", "takenSets", "[I", true)
  | 41 => ("NoSquareModel", "game", "[I", true)
  | 42 => ("NoSquareModel", "lefts", "[I", true)
  | 43 => ("NoSquareModel", "lanes", "[I", true)
  | 44 => ("NoSquareModel", "sizes", "[I", true)
  | 45 => ("NoSquareModel", "cells", "[I", true)
  | _ => ("NoSquareModel", "torn", "I", false)
def tyX10 : Nat → FieldType := fun k => match k with
  | 0 => .array .int
  | 1 => .array .boolean
  | 2 => .int
  | 3 => .int
  | 4 => .int
  | 5 => .int
  | 6 => .array .int
  | 7 => .array .int
  | 8 => .array .int
  | 9 => .array .int
  | 10 => .int
  | 11 => .int
  | 12 => .int
  | 13 => .array .int
  | 14 => .int
  | 15 => .array .int
  | 16 => .boolean
  | 17 => .int
  | 18 => .array .int
  | 19 => .int
  | 20 => .int
  | 21 => .int
  | 22 => .int
  | 23 => .int
  | 24 => .int
  | 25 => .int
  | 26 => .array .int
  | 27 => .array .int
  | 28 => .array .int
  | 29 => .array .int
  | 30 => .array .int
  | 31 => .int
  | 32 => .int
  | 33 => .int
  | 34 => .array .int
  | 35 => .int
  | 36 => .array .int
  | 37 => .int
  | 38 => .int
  | 39 => .int
  | 40 => .array .int
  | 41 => .array .int
  | 42 => .array .int
  | 43 => .array .int
  | 44 => .array .int
  | 45 => .array .int
  | _ => .int
abbrev wsX100 : List Cond := u_ws RX10 TX10 47
theorem nmX10 : ∀ a, a < 47 → ∀ b, b < 47 → a ≠ b → (TX10 a).2.1 ≠ (TX10 b).2.1 := by decide +kernel
theorem tyX10_ok : ∀ k, k < 47 → parseFieldDescriptor (TX10 k).2.2.1 = some (tyX10 k) := by decide +kernel
abbrev cX10_init : ByteArray := prog_12_method_1_code
def yX10_init : MethodName := ⟨RX10, "<init>", "()V"⟩
abbrev cX10_in : ByteArray := prog_12_method_3_code
def yX10_in : MethodName := ⟨RX10, "in", "(JJJ)Z"⟩
abbrev cX10_flag : ByteArray := prog_12_method_4_code
def yX10_flag : MethodName := ⟨RX10, "flag", "(Z)I"⟩
abbrev cX10_bitsOf : ByteArray := prog_12_method_5_code
def yX10_bitsOf : MethodName := ⟨RX10, "bitsOf", "(I)I"⟩
abbrev cX10_firstDraft : ByteArray := prog_12_method_6_code
def yX10_firstDraft : MethodName := ⟨RX10, "firstDraft", "()V"⟩
abbrev cX10_acrossAt : ByteArray := prog_12_method_7_code
def yX10_acrossAt : MethodName := ⟨RX10, "acrossAt", "(II)I"⟩
abbrev cX10_standsAt : ByteArray := prog_12_method_8_code
def yX10_standsAt : MethodName := ⟨RX10, "standsAt", "(II)I"⟩
abbrev cX10_rimOf : ByteArray := prog_12_method_9_code
def yX10_rimOf : MethodName := ⟨RX10, "rimOf", "(III)I"⟩
abbrev cX10_findSquares : ByteArray := prog_12_method_10_code
def yX10_findSquares : MethodName := ⟨RX10, "findSquares", "()V"⟩
abbrev cX10_keepDraft : ByteArray := prog_12_method_11_code
def yX10_keepDraft : MethodName := ⟨RX10, "keepDraft", "()V"⟩
abbrev cX10_feed : ByteArray := prog_12_method_12_code
def yX10_feed : MethodName := ⟨RX10, "feed", "(J)I"⟩
abbrev cX10_end : ByteArray := prog_12_method_13_code
def yX10_end : MethodName := ⟨RX10, "end", "(I)I"⟩
abbrev cX10_needs : ByteArray := prog_12_method_14_code
def yX10_needs : MethodName := ⟨RX10, "needs", "(ZI)V"⟩
abbrev cX10_look : ByteArray := prog_12_method_15_code
def yX10_look : MethodName := ⟨RX10, "look", "(I)I"⟩
abbrev cX10_is : ByteArray := prog_12_method_16_code
def yX10_is : MethodName := ⟨RX10, "is", "(IIII)Z"⟩
abbrev cX10_lineNow : ByteArray := prog_12_method_17_code
def yX10_lineNow : MethodName := ⟨RX10, "lineNow", "()I"⟩
abbrev cX10_next : ByteArray := prog_12_method_18_code
def yX10_next : MethodName := ⟨RX10, "next", "()V"⟩
abbrev cX10_looked : ByteArray := prog_12_method_19_code
def yX10_looked : MethodName := ⟨RX10, "looked", "(II)I"⟩
abbrev cX10_readNumber : ByteArray := prog_12_method_20_code
def yX10_readNumber : MethodName := ⟨RX10, "readNumber", "(II)I"⟩
abbrev cX10_lookedMatch : ByteArray := prog_12_method_21_code
def yX10_lookedMatch : MethodName := ⟨RX10, "lookedMatch", "()I"⟩
abbrev cX10_readGone : ByteArray := prog_12_method_22_code
def yX10_readGone : MethodName := ⟨RX10, "readGone", "()V"⟩
abbrev cX10_readSizes : ByteArray := prog_12_method_23_code
def yX10_readSizes : MethodName := ⟨RX10, "readSizes", "()V"⟩
abbrev cX10_readLineOf : ByteArray := prog_12_method_24_code
def yX10_readLineOf : MethodName := ⟨RX10, "readLineOf", "(I)V"⟩
abbrev cX10_readLine : ByteArray := prog_12_method_25_code
def yX10_readLine : MethodName := ⟨RX10, "readLine", "()V"⟩
abbrev cX10_text : ByteArray := prog_12_method_26_code
def yX10_text : MethodName := ⟨RX10, "text", "()I"⟩
abbrev cX10_fault : ByteArray := prog_12_method_27_code
def yX10_fault : MethodName := ⟨RX10, "fault", "()I"⟩
abbrev cX10_isMatch : ByteArray := prog_12_method_28_code
def yX10_isMatch : MethodName := ⟨RX10, "isMatch", "(I)Z"⟩
abbrev cX10_doesLie : ByteArray := prog_12_method_29_code
def yX10_doesLie : MethodName := ⟨RX10, "doesLie", "(I)Z"⟩
abbrev cX10_doesCount : ByteArray := prog_12_method_30_code
def yX10_doesCount : MethodName := ⟨RX10, "doesCount", "(I)Z"⟩
abbrev cX10_leftOf : ByteArray := prog_12_method_31_code
def yX10_leftOf : MethodName := ⟨RX10, "leftOf", "(I)I"⟩
abbrev cX10_wholeOf : ByteArray := prog_12_method_32_code
def yX10_wholeOf : MethodName := ⟨RX10, "wholeOf", "(II)I"⟩
abbrev cX10_rule : ByteArray := prog_12_method_33_code
def yX10_rule : MethodName := ⟨RX10, "rule", "(I)I"⟩
abbrev cX10_square : ByteArray := prog_12_method_34_code
def yX10_square : MethodName := ⟨RX10, "square", "(II)I"⟩
abbrev cX10_cost : ByteArray := prog_12_method_35_code
def yX10_cost : MethodName := ⟨RX10, "cost", "(I)I"⟩
abbrev cX10_whole : ByteArray := prog_12_method_36_code
def yX10_whole : MethodName := ⟨RX10, "whole", "(I)I"⟩
abbrev cX10_left : ByteArray := prog_12_method_37_code
def yX10_left : MethodName := ⟨RX10, "left", "()I"⟩
abbrev cX10_take : ByteArray := prog_12_method_38_code
def yX10_take : MethodName := ⟨RX10, "take", "(I)I"⟩
abbrev cX10_lie : ByteArray := prog_12_method_39_code
def yX10_lie : MethodName := ⟨RX10, "lie", "(I)I"⟩
abbrev cX10_price : ByteArray := prog_12_method_40_code
def yX10_price : MethodName := ⟨RX10, "price", "(II)I"⟩
abbrev cX10_counts : ByteArray := prog_12_method_41_code
def yX10_counts : MethodName := ⟨RX10, "counts", "(IZ)I"⟩
abbrev cX10_firstWhole : ByteArray := prog_12_method_42_code
def yX10_firstWhole : MethodName := ⟨RX10, "firstWhole", "(I)I"⟩
abbrev cX10_takesSet : ByteArray := prog_12_method_43_code
def yX10_takesSet : MethodName := ⟨RX10, "takesSet", "(II)V"⟩
abbrev cX10_enters : ByteArray := prog_12_method_44_code
def yX10_enters : MethodName := ⟨RX10, "enters", "(I)V"⟩
abbrev cX10_findBreaks : ByteArray := prog_12_method_45_code
def yX10_findBreaks : MethodName := ⟨RX10, "findBreaks", "(Z)V"⟩
abbrev cX10_fewest : ByteArray := prog_12_method_46_code
def yX10_fewest : MethodName := ⟨RX10, "fewest", "(I)I"⟩
abbrev cX10_cheapest : ByteArray := prog_12_method_47_code
def yX10_cheapest : MethodName := ⟨RX10, "cheapest", "(I)I"⟩
abbrev cX10_without : ByteArray := prog_12_method_48_code
def yX10_without : MethodName := ⟨RX10, "without", "(I)I"⟩
abbrev cX10_matchAt : ByteArray := prog_12_method_49_code
def yX10_matchAt : MethodName := ⟨RX10, "matchAt", "(II)I"⟩
abbrev cX10_turned : ByteArray := prog_12_method_50_code
def yX10_turned : MethodName := ⟨RX10, "turned", "(II)I"⟩
abbrev cX10_turnedSet : ByteArray := prog_12_method_51_code
def yX10_turnedSet : MethodName := ⟨RX10, "turnedSet", "(II)I"⟩
abbrev cX10_isSet : ByteArray := prog_12_method_52_code
def yX10_isSet : MethodName := ⟨RX10, "isSet", "(I)Z"⟩
abbrev cX10_alike : ByteArray := prog_12_method_53_code
def yX10_alike : MethodName := ⟨RX10, "alike", "(II)I"⟩
abbrev cX10_findSome : ByteArray := prog_12_method_54_code
def yX10_findSome : MethodName := ⟨RX10, "findSome", "(I)V"⟩
abbrev cX10_firstOf : ByteArray := prog_12_method_55_code
def yX10_firstOf : MethodName := ⟨RX10, "firstOf", "(I)V"⟩
abbrev cX10_setNow : ByteArray := prog_12_method_56_code
def yX10_setNow : MethodName := ⟨RX10, "setNow", "(I)I"⟩
abbrev cX10_nextOf : ByteArray := prog_12_method_57_code
def yX10_nextOf : MethodName := ⟨RX10, "nextOf", "(I)Z"⟩
abbrev cX10_allOutside : ByteArray := prog_12_method_58_code
def yX10_allOutside : MethodName := ⟨RX10, "allOutside", "()I"⟩
abbrev cX10_between : ByteArray := prog_12_method_59_code
def yX10_between : MethodName := ⟨RX10, "between", "(I)I"⟩
abbrev cX10_startsGather : ByteArray := prog_12_method_60_code
def yX10_startsGather : MethodName := ⟨RX10, "startsGather", "()V"⟩
abbrev cX10_gathers : ByteArray := prog_12_method_61_code
def yX10_gathers : MethodName := ⟨RX10, "gathers", "(I)V"⟩
abbrev cX10_just : ByteArray := prog_12_method_62_code
def yX10_just : MethodName := ⟨RX10, "just", "(III)I"⟩
abbrev cX10_riddle : ByteArray := prog_12_method_63_code
def yX10_riddle : MethodName := ⟨RX10, "riddle", "(III)I"⟩
abbrev cX10_ofRow : ByteArray := prog_12_method_64_code
def yX10_ofRow : MethodName := ⟨RX10, "ofRow", "(I)I"⟩
abbrev cX10_winsBy : ByteArray := prog_12_method_65_code
def yX10_winsBy : MethodName := ⟨RX10, "winsBy", "(II)Z"⟩
abbrev cX10_taking : ByteArray := prog_12_method_66_code
def yX10_taking : MethodName := ⟨RX10, "taking", "(I)I"⟩
abbrev cX10_startsLaying : ByteArray := prog_12_method_67_code
def yX10_startsLaying : MethodName := ⟨RX10, "startsLaying", "()Z"⟩
abbrev cX10_laidBy : ByteArray := prog_12_method_68_code
def yX10_laidBy : MethodName := ⟨RX10, "laidBy", "(II)I"⟩
abbrev cX10_boxedBy : ByteArray := prog_12_method_69_code
def yX10_boxedBy : MethodName := ⟨RX10, "boxedBy", "(II)I"⟩
abbrev cX10_playedBy : ByteArray := prog_12_method_70_code
def yX10_playedBy : MethodName := ⟨RX10, "playedBy", "(IIZ)I"⟩
abbrev cX10_findGame : ByteArray := prog_12_method_71_code
def yX10_findGame : MethodName := ⟨RX10, "findGame", "(Z)V"⟩
abbrev cX10_bestPlace : ByteArray := prog_12_method_72_code
def yX10_bestPlace : MethodName := ⟨RX10, "bestPlace", "(Z)I"⟩
abbrev cX10_laying : ByteArray := prog_12_method_73_code
def yX10_laying : MethodName := ⟨RX10, "laying", "(I)I"⟩
abbrev cX10_boxes : ByteArray := prog_12_method_74_code
def yX10_boxes : MethodName := ⟨RX10, "boxes", "(I)I"⟩
abbrev cX10_common : ByteArray := prog_12_method_75_code
def yX10_common : MethodName := ⟨RX10, "common", "(JJ)J"⟩
abbrev cX10_lowest : ByteArray := prog_12_method_76_code
def yX10_lowest : MethodName := ⟨RX10, "lowest", "(JJI)J"⟩
abbrev cX10_mean : ByteArray := prog_12_method_77_code
def yX10_mean : MethodName := ⟨RX10, "mean", "(I)J"⟩
abbrev cX10_chance : ByteArray := prog_12_method_78_code
def yX10_chance : MethodName := ⟨RX10, "chance", "(I)J"⟩
abbrev cX10_see : ByteArray := prog_12_method_79_code
def yX10_see : MethodName := ⟨RX10, "see", "(II)I"⟩
abbrev cX10_isSo : ByteArray := prog_12_method_80_code
def yX10_isSo : MethodName := ⟨RX10, "isSo", "(I)Z"⟩
abbrev cX10_gone : ByteArray := prog_12_method_81_code
def yX10_gone : MethodName := ⟨RX10, "gone", "(II)I"⟩
abbrev cX10_play : ByteArray := prog_12_method_82_code
def yX10_play : MethodName := ⟨RX10, "play", "(II)I"⟩
abbrev cX10_copies : ByteArray := prog_12_method_83_code
def yX10_copies : MethodName := ⟨RX10, "copies", "(II)V"⟩
abbrev cX10_keep : ByteArray := prog_12_method_84_code
def yX10_keep : MethodName := ⟨RX10, "keep", "(I)I"⟩
abbrev cX10_back : ByteArray := prog_12_method_85_code
def yX10_back : MethodName := ⟨RX10, "back", "(I)I"⟩
abbrev cX10_isSheet : ByteArray := prog_12_method_86_code
def yX10_isSheet : MethodName := ⟨RX10, "isSheet", "(II)Z"⟩
abbrev cX10_sheet : ByteArray := prog_12_method_87_code
def yX10_sheet : MethodName := ⟨RX10, "sheet", "(III)I"⟩
abbrev cX10_lay : ByteArray := prog_12_method_88_code
def yX10_lay : MethodName := ⟨RX10, "lay", "(III)I"⟩
abbrev cX10_read : ByteArray := prog_12_method_89_code
def yX10_read : MethodName := ⟨RX10, "read", "(IIII)I"⟩
abbrev cX10_torn : ByteArray := prog_12_method_90_code
def yX10_torn : MethodName := ⟨RX10, "torn", "()I"⟩
abbrev cX10_count : ByteArray := prog_12_method_91_code
def yX10_count : MethodName := ⟨RX10, "count", "(I)I"⟩
def RJx145de : String := "java/io/Serializable"
def TJx145de : u_T := fun k => match k with
  | _ => ("", "", "", false)
def tyJx145de : Nat → FieldType := fun k => match k with
  | _ => .int
abbrev wsJx145de0 : List Cond := u_ws RJx145de TJx145de 0
theorem nmJx145de : ∀ a, a < 0 → ∀ b, b < 0 → a ≠ b → (TJx145de a).2.1 ≠ (TJx145de b).2.1 := by decide +kernel
theorem tyJx145de_ok : ∀ k, k < 0 → parseFieldDescriptor (TJx145de k).2.2.1 = some (tyJx145de k) := by decide +kernel
def RJx9f9b0 : String := "java/lang/CharSequence"
def TJx9f9b0 : u_T := fun k => match k with
  | _ => ("", "", "", false)
def tyJx9f9b0 : Nat → FieldType := fun k => match k with
  | _ => .int
abbrev wsJx9f9b00 : List Cond := u_ws RJx9f9b0 TJx9f9b0 0
theorem nmJx9f9b0 : ∀ a, a < 0 → ∀ b, b < 0 → a ≠ b → (TJx9f9b0 a).2.1 ≠ (TJx9f9b0 b).2.1 := by decide +kernel
theorem tyJx9f9b0_ok : ∀ k, k < 0 → parseFieldDescriptor (TJx9f9b0 k).2.2.1 = some (tyJx9f9b0 k) := by decide +kernel
def RJxb160c : String := "java/lang/Comparable"
def TJxb160c : u_T := fun k => match k with
  | _ => ("", "", "", false)
def tyJxb160c : Nat → FieldType := fun k => match k with
  | _ => .int
abbrev wsJxb160c0 : List Cond := u_ws RJxb160c TJxb160c 0
theorem nmJxb160c : ∀ a, a < 0 → ∀ b, b < 0 → a ≠ b → (TJxb160c a).2.1 ≠ (TJxb160c b).2.1 := by decide +kernel
theorem tyJxb160c_ok : ∀ k, k < 0 → parseFieldDescriptor (TJxb160c k).2.2.1 = some (tyJxb160c k) := by decide +kernel
def RJ6 : String := "java/lang/Integer"
def TJ6 : u_T := fun k => match k with
  | _ => ("", "", "", false)
def tyJ6 : Nat → FieldType := fun k => match k with
  | _ => .int
abbrev wsJ60 : List Cond := u_ws RJ6 TJ6 0
theorem nmJ6 : ∀ a, a < 0 → ∀ b, b < 0 → a ≠ b → (TJ6 a).2.1 ≠ (TJ6 b).2.1 := by decide +kernel
theorem tyJ6_ok : ∀ k, k < 0 → parseFieldDescriptor (TJ6 k).2.2.1 = some (tyJ6 k) := by decide +kernel
abbrev cJ6_bitCount_0f7a4 : ByteArray := prog_13_method_49_code
def yJ6_bitCount_0f7a4 : MethodName := ⟨RJ6, "bitCount", "(I)I"⟩
def RJ9 : String := "java/lang/Math"
def TJ9 : u_T := fun k => match k with
  | _ => ("", "", "", false)
def tyJ9 : Nat → FieldType := fun k => match k with
  | _ => .int
abbrev wsJ90 : List Cond := u_ws RJ9 TJ9 0
theorem nmJ9 : ∀ a, a < 0 → ∀ b, b < 0 → a ≠ b → (TJ9 a).2.1 ≠ (TJ9 b).2.1 := by decide +kernel
theorem tyJ9_ok : ∀ k, k < 0 → parseFieldDescriptor (TJ9 k).2.2.1 = some (tyJ9 k) := by decide +kernel
abbrev cJ9_min_7cf53 : ByteArray := prog_14_method_69_code
def yJ9_min_7cf53 : MethodName := ⟨RJ9, "min", "(II)I"⟩
def RJ0 : String := "java/lang/String"
def TJ0 : u_T := fun k => match k with
  | _ => ("", "", "", false)
def tyJ0 : Nat → FieldType := fun k => match k with
  | _ => .int
abbrev wsJ00 : List Cond := u_ws RJ0 TJ0 0
theorem nmJ0 : ∀ a, a < 0 → ∀ b, b < 0 → a ≠ b → (TJ0 a).2.1 ≠ (TJ0 b).2.1 := by decide +kernel
theorem tyJ0_ok : ∀ k, k < 0 → parseFieldDescriptor (TJ0 k).2.2.1 = some (tyJ0 k) := by decide +kernel
abbrev cJ0_length_8abf5 : ByteArray := prog_15_method_54_code
def yJ0_length_8abf5 : MethodName := ⟨RJ0, "length", "()I"⟩
abbrev cJ0_charAt_5068e : ByteArray := prog_15_method_56_code
def yJ0_charAt_5068e : MethodName := ⟨RJ0, "charAt", "(I)C"⟩
abbrev cJ0_coder_7d493 : ByteArray := prog_15_method_152_code
def yJ0_coder_7d493 : MethodName := ⟨RJ0, "coder", "()B"⟩
abbrev cJ0_isLatin1_aae02 : ByteArray := prog_15_method_154_code
def yJ0_isLatin1_aae02 : MethodName := ⟨RJ0, "isLatin1", "()Z"⟩
abbrev cJ0_checkIndex_df160 : ByteArray := prog_15_method_155_code
def yJ0_checkIndex_df160 : MethodName := ⟨RJ0, "checkIndex", "(II)V"⟩
def RJ1 : String := "java/lang/StringLatin1"
def TJ1 : u_T := fun k => match k with
  | _ => ("", "", "", false)
def tyJ1 : Nat → FieldType := fun k => match k with
  | _ => .int
abbrev wsJ10 : List Cond := u_ws RJ1 TJ1 0
theorem nmJ1 : ∀ a, a < 0 → ∀ b, b < 0 → a ≠ b → (TJ1 a).2.1 ≠ (TJ1 b).2.1 := by decide +kernel
theorem tyJ1_ok : ∀ k, k < 0 → parseFieldDescriptor (TJ1 k).2.2.1 = some (tyJ1 k) := by decide +kernel
abbrev cJ1_charAt_3b067 : ByteArray := prog_16_method_2_code
def yJ1_charAt_3b067 : MethodName := ⟨RJ1, "charAt", "([BI)C"⟩
def RJ2 : String := "java/lang/StringUTF16"
def TJ2 : u_T := fun k => match k with
  | _ => ("", "", "", false)
def tyJ2 : Nat → FieldType := fun k => match k with
  | _ => .int
abbrev wsJ20 : List Cond := u_ws RJ2 TJ2 0
theorem nmJ2 : ∀ a, a < 0 → ∀ b, b < 0 → a ≠ b → (TJ2 a).2.1 ≠ (TJ2 b).2.1 := by decide +kernel
theorem tyJ2_ok : ∀ k, k < 0 → parseFieldDescriptor (TJ2 k).2.2.1 = some (tyJ2 k) := by decide +kernel
abbrev cJ2_getChar_3b067 : ByteArray := prog_17_method_5_code
def yJ2_getChar_3b067 : MethodName := ⟨RJ2, "getChar", "([BI)C"⟩
abbrev cJ2_length_9d52b : ByteArray := prog_17_method_6_code
def yJ2_length_9d52b : MethodName := ⟨RJ2, "length", "([B)I"⟩
abbrev cJ2_charAt_3b067 : ByteArray := prog_17_method_83_code
def yJ2_charAt_3b067 : MethodName := ⟨RJ2, "charAt", "([BI)C"⟩
abbrev cJ2_checkIndex_2214a : ByteArray := prog_17_method_91_code
def yJ2_checkIndex_2214a : MethodName := ⟨RJ2, "checkIndex", "(I[B)V"⟩
def RJ10 : String := "java/lang/System"
def TJ10 : u_T := fun k => match k with
  | _ => ("", "", "", false)
def tyJ10 : Nat → FieldType := fun k => match k with
  | _ => .int
abbrev wsJ100 : List Cond := u_ws RJ10 TJ10 0
theorem nmJ10 : ∀ a, a < 0 → ∀ b, b < 0 → a ≠ b → (TJ10 a).2.1 ≠ (TJ10 b).2.1 := by decide +kernel
theorem tyJ10_ok : ∀ k, k < 0 → parseFieldDescriptor (TJ10 k).2.2.1 = some (tyJ10 k) := by decide +kernel
def RJxfd54e : String := "java/lang/constant/Constable"
def TJxfd54e : u_T := fun k => match k with
  | _ => ("", "", "", false)
def tyJxfd54e : Nat → FieldType := fun k => match k with
  | _ => .int
abbrev wsJxfd54e0 : List Cond := u_ws RJxfd54e TJxfd54e 0
theorem nmJxfd54e : ∀ a, a < 0 → ∀ b, b < 0 → a ≠ b → (TJxfd54e a).2.1 ≠ (TJxfd54e b).2.1 := by decide +kernel
theorem tyJxfd54e_ok : ∀ k, k < 0 → parseFieldDescriptor (TJxfd54e k).2.2.1 = some (tyJxfd54e k) := by decide +kernel
def RJx3cf43 : String := "java/lang/constant/ConstantDesc"
def TJx3cf43 : u_T := fun k => match k with
  | _ => ("", "", "", false)
def tyJx3cf43 : Nat → FieldType := fun k => match k with
  | _ => .int
abbrev wsJx3cf430 : List Cond := u_ws RJx3cf43 TJx3cf43 0
theorem nmJx3cf43 : ∀ a, a < 0 → ∀ b, b < 0 → a ≠ b → (TJx3cf43 a).2.1 ≠ (TJx3cf43 b).2.1 := by decide +kernel
theorem tyJx3cf43_ok : ∀ k, k < 0 → parseFieldDescriptor (TJx3cf43 k).2.2.1 = some (tyJx3cf43 k) := by decide +kernel
def RJ7 : String := "java/util/Arrays"
def TJ7 : u_T := fun k => match k with
  | _ => ("", "", "", false)
def tyJ7 : Nat → FieldType := fun k => match k with
  | _ => .int
abbrev wsJ70 : List Cond := u_ws RJ7 TJ7 0
theorem nmJ7 : ∀ a, a < 0 → ∀ b, b < 0 → a ≠ b → (TJ7 a).2.1 ≠ (TJ7 b).2.1 := by decide +kernel
theorem tyJ7_ok : ∀ k, k < 0 → parseFieldDescriptor (TJ7 k).2.2.1 = some (tyJ7 k) := by decide +kernel
abbrev cJ7_fill_53178 : ByteArray := prog_19_method_103_code
def yJ7_fill_53178 : MethodName := ⟨RJ7, "fill", "([II)V"⟩
def RJ3 : String := "jdk/internal/util/Preconditions"
def TJ3 : u_T := fun k => match k with
  | _ => ("", "", "", false)
def tyJ3 : Nat → FieldType := fun k => match k with
  | _ => .int
abbrev wsJ30 : List Cond := u_ws RJ3 TJ3 0
theorem nmJ3 : ∀ a, a < 0 → ∀ b, b < 0 → a ≠ b → (TJ3 a).2.1 ≠ (TJ3 b).2.1 := by decide +kernel
theorem tyJ3_ok : ∀ k, k < 0 → parseFieldDescriptor (TJ3 k).2.2.1 = some (tyJ3 k) := by decide +kernel
abbrev cJ3_checkIndex_8e157 : ByteArray := prog_20_method_11_code
def yJ3_checkIndex_8e157 : MethodName := ⟨RJ3, "checkIndex", "(IILjava/util/function/BiFunction;)I"⟩
def RL : String := "NoSquareLaw"
abbrev cL_law : ByteArray := code
def yL_law : MethodName := ⟨RL, "law", "([I)Z"⟩
abbrev vwCl : List vw_C := [(RX0, TX0, 9), (RX1, TX1, 7), (RX2, TX2, 12), (RX3, TX3, 6), (RX4, TX4, 10), (RX5, TX5, 2), (RX6, TX6, 4), (RX7, TX7, 6), (RX8, TX8, 12), (RX9, TX9, 13), (RX10, TX10, 47)]
end
section
theorem dX0_init_0 : decode cX0_init 0 = .ok (.aload_n 0, 1) := by decide +kernel
theorem dX0_init_1 : decode cX0_init 1 = .ok (.invokespecial 3, 3) := by decide +kernel
theorem dX0_init_4 : decode cX0_init 4 = .ok (.aload_n 0, 1) := by decide +kernel
theorem dX0_init_5 : decode cX0_init 5 = .ok (.bipush 31, 2) := by decide +kernel
theorem dX0_init_7 : decode cX0_init 7 = .ok (.newarray .int, 2) := by decide +kernel
theorem dX0_init_9 : decode cX0_init 9 = .ok (.putfield 9, 3) := by decide +kernel
theorem dX0_init_12 : decode cX0_init 12 = .ok (.aload_n 0, 1) := by decide +kernel
theorem dX0_init_13 : decode cX0_init 13 = .ok (.bipush 20, 2) := by decide +kernel
theorem dX0_init_15 : decode cX0_init 15 = .ok (.newarray .int, 2) := by decide +kernel
theorem dX0_init_17 : decode cX0_init 17 = .ok (.putfield 15, 3) := by decide +kernel
theorem dX0_init_20 : decode cX0_init 20 = .ok (.aload_n 0, 1) := by decide +kernel
theorem dX0_init_21 : decode cX0_init 21 = .ok (.bipush 31, 2) := by decide +kernel
theorem dX0_init_23 : decode cX0_init 23 = .ok (.newarray .int, 2) := by decide +kernel
theorem dX0_init_25 : decode cX0_init 25 = .ok (.putfield 18, 3) := by decide +kernel
theorem dX0_init_28 : decode cX0_init 28 = .ok (.aload_n 0, 1) := by decide +kernel
theorem dX0_init_29 : decode cX0_init 29 = .ok (.bipush 10, 2) := by decide +kernel
theorem dX0_init_31 : decode cX0_init 31 = .ok (.newarray .int, 2) := by decide +kernel
theorem dX0_init_33 : decode cX0_init 33 = .ok (.putfield 21, 3) := by decide +kernel
theorem dX0_init_36 : decode cX0_init 36 = .ok (.return_, 1) := by decide +kernel
theorem dX0_searchAll_0 : decode cX0_searchAll 0 = .ok (.aload_n 0, 1) := by decide +kernel
theorem dX0_searchAll_1 : decode cX0_searchAll 1 = .ok (.aload_n 1, 1) := by decide +kernel
theorem dX0_searchAll_2 : decode cX0_searchAll 2 = .ok (.getfield 24, 3) := by decide +kernel
theorem dX0_searchAll_5 : decode cX0_searchAll 5 = .ok (.putfield 30, 3) := by decide +kernel
theorem dX0_searchAll_8 : decode cX0_searchAll 8 = .ok (.aload_n 0, 1) := by decide +kernel
theorem dX0_searchAll_9 : decode cX0_searchAll 9 = .ok (.getfield 21, 3) := by decide +kernel
theorem dX0_searchAll_12 : decode cX0_searchAll 12 = .ok (.iconst 0, 1) := by decide +kernel
theorem dX0_searchAll_13 : decode cX0_searchAll 13 = .ok (.invokestatic 31, 3) := by decide +kernel
theorem dX0_searchAll_16 : decode cX0_searchAll 16 = .ok (.aload_n 1, 1) := by decide +kernel
theorem dX0_searchAll_17 : decode cX0_searchAll 17 = .ok (.getfield 37, 3) := by decide +kernel
theorem dX0_searchAll_20 : decode cX0_searchAll 20 = .ok (.iconst 0, 1) := by decide +kernel
theorem dX0_searchAll_21 : decode cX0_searchAll 21 = .ok (.aload_n 0, 1) := by decide +kernel
theorem dX0_searchAll_22 : decode cX0_searchAll 22 = .ok (.getfield 15, 3) := by decide +kernel
theorem dX0_searchAll_25 : decode cX0_searchAll 25 = .ok (.iconst 0, 1) := by decide +kernel
theorem dX0_searchAll_26 : decode cX0_searchAll 26 = .ok (.bipush 20, 2) := by decide +kernel
theorem dX0_searchAll_28 : decode cX0_searchAll 28 = .ok (.invokestatic 38, 3) := by decide +kernel
theorem dX0_searchAll_31 : decode cX0_searchAll 31 = .ok (.aload_n 3, 1) := by decide +kernel
theorem dX0_searchAll_32 : decode cX0_searchAll 32 = .ok (.getfield 44, 3) := by decide +kernel
theorem dX0_searchAll_35 : decode cX0_searchAll 35 = .ok (.iconst 0, 1) := by decide +kernel
theorem dX0_searchAll_36 : decode cX0_searchAll 36 = .ok (.aload_n 0, 1) := by decide +kernel
theorem dX0_searchAll_37 : decode cX0_searchAll 37 = .ok (.getfield 9, 3) := by decide +kernel
theorem dX0_searchAll_40 : decode cX0_searchAll 40 = .ok (.iconst 0, 1) := by decide +kernel
theorem dX0_searchAll_41 : decode cX0_searchAll 41 = .ok (.bipush 31, 2) := by decide +kernel
theorem dX0_searchAll_43 : decode cX0_searchAll 43 = .ok (.invokestatic 38, 3) := by decide +kernel
theorem dX0_searchAll_46 : decode cX0_searchAll 46 = .ok (.iconst 0, 1) := by decide +kernel
theorem dX0_searchAll_47 : decode cX0_searchAll 47 = .ok (.istore 4, 2) := by decide +kernel
theorem dX0_searchAll_49 : decode cX0_searchAll 49 = .ok (.iload 4, 2) := by decide +kernel
theorem dX0_searchAll_51 : decode cX0_searchAll 51 = .ok (.aload_n 1, 1) := by decide +kernel
theorem dX0_searchAll_52 : decode cX0_searchAll 52 = .ok (.getfield 47, 3) := by decide +kernel
theorem dX0_searchAll_55 : decode cX0_searchAll 55 = .ok (.if_icmp .ge 59, 3) := by decide +kernel
theorem dX0_searchAll_58 : decode cX0_searchAll 58 = .ok (.aload_n 0, 1) := by decide +kernel
theorem dX0_searchAll_59 : decode cX0_searchAll 59 = .ok (.getfield 18, 3) := by decide +kernel
theorem dX0_searchAll_62 : decode cX0_searchAll 62 = .ok (.iload 4, 2) := by decide +kernel
theorem dX0_searchAll_64 : decode cX0_searchAll 64 = .ok (.aload_n 1, 1) := by decide +kernel
theorem dX0_searchAll_65 : decode cX0_searchAll 65 = .ok (.iload_n 2, 1) := by decide +kernel
theorem dX0_searchAll_66 : decode cX0_searchAll 66 = .ok (.iload 4, 2) := by decide +kernel
theorem dX0_searchAll_68 : decode cX0_searchAll 68 = .ok (.invokevirtual 50, 3) := by decide +kernel
theorem dX0_searchAll_71 : decode cX0_searchAll 71 = .ok (.iastore, 1) := by decide +kernel
theorem dX0_searchAll_72 : decode cX0_searchAll 72 = .ok (.aload_n 0, 1) := by decide +kernel
theorem dX0_searchAll_73 : decode cX0_searchAll 73 = .ok (.getfield 9, 3) := by decide +kernel
theorem dX0_searchAll_76 : decode cX0_searchAll 76 = .ok (.iload 4, 2) := by decide +kernel
theorem dX0_searchAll_78 : decode cX0_searchAll 78 = .ok (.iaload, 1) := by decide +kernel
theorem dX0_searchAll_79 : decode cX0_searchAll 79 = .ok (.istore 5, 2) := by decide +kernel
theorem dX0_searchAll_81 : decode cX0_searchAll 81 = .ok (.iload 5, 2) := by decide +kernel
theorem dX0_searchAll_83 : decode cX0_searchAll 83 = .ok (.bipush 9, 2) := by decide +kernel
theorem dX0_searchAll_85 : decode cX0_searchAll 85 = .ok (.if_icmp .gt 23, 3) := by decide +kernel
theorem dX0_searchAll_88 : decode cX0_searchAll 88 = .ok (.aload_n 0, 1) := by decide +kernel
theorem dX0_searchAll_89 : decode cX0_searchAll 89 = .ok (.getfield 21, 3) := by decide +kernel
theorem dX0_searchAll_92 : decode cX0_searchAll 92 = .ok (.iload 5, 2) := by decide +kernel
theorem dX0_searchAll_94 : decode cX0_searchAll 94 = .ok (.dup2, 1) := by decide +kernel
theorem dX0_searchAll_95 : decode cX0_searchAll 95 = .ok (.iaload, 1) := by decide +kernel
theorem dX0_searchAll_96 : decode cX0_searchAll 96 = .ok (.iconst 1, 1) := by decide +kernel
theorem dX0_searchAll_97 : decode cX0_searchAll 97 = .ok (.iload 4, 2) := by decide +kernel
theorem dX0_searchAll_99 : decode cX0_searchAll 99 = .ok (.ishl, 1) := by decide +kernel
theorem dX0_searchAll_100 : decode cX0_searchAll 100 = .ok (.ior, 1) := by decide +kernel
theorem dX0_searchAll_101 : decode cX0_searchAll 101 = .ok (.iastore, 1) := by decide +kernel
theorem dX0_searchAll_102 : decode cX0_searchAll 102 = .ok (.iinc 5 1, 3) := by decide +kernel
theorem dX0_searchAll_105 : decode cX0_searchAll 105 = .ok (.goto (-24), 3) := by decide +kernel
theorem dX0_searchAll_108 : decode cX0_searchAll 108 = .ok (.iinc 4 1, 3) := by decide +kernel
theorem dX0_searchAll_111 : decode cX0_searchAll 111 = .ok (.goto (-62), 3) := by decide +kernel
theorem dX0_searchAll_114 : decode cX0_searchAll 114 = .ok (.aload_n 0, 1) := by decide +kernel
theorem dX0_searchAll_115 : decode cX0_searchAll 115 = .ok (.sipush 279, 3) := by decide +kernel
theorem dX0_searchAll_118 : decode cX0_searchAll 118 = .ok (.putfield 54, 3) := by decide +kernel
theorem dX0_searchAll_121 : decode cX0_searchAll 121 = .ok (.aload_n 0, 1) := by decide +kernel
theorem dX0_searchAll_122 : decode cX0_searchAll 122 = .ok (.iconst 0, 1) := by decide +kernel
theorem dX0_searchAll_123 : decode cX0_searchAll 123 = .ok (.putfield 57, 3) := by decide +kernel
theorem dX0_searchAll_126 : decode cX0_searchAll 126 = .ok (.aload_n 0, 1) := by decide +kernel
theorem dX0_searchAll_127 : decode cX0_searchAll 127 = .ok (.iconst 0, 1) := by decide +kernel
theorem dX0_searchAll_128 : decode cX0_searchAll 128 = .ok (.putfield 60, 3) := by decide +kernel
theorem dX0_searchAll_131 : decode cX0_searchAll 131 = .ok (.aload_n 0, 1) := by decide +kernel
theorem dX0_searchAll_132 : decode cX0_searchAll 132 = .ok (.iconst 0, 1) := by decide +kernel
theorem dX0_searchAll_133 : decode cX0_searchAll 133 = .ok (.iload_n 2, 1) := by decide +kernel
theorem dX0_searchAll_134 : decode cX0_searchAll 134 = .ok (.aload_n 1, 1) := by decide +kernel
theorem dX0_searchAll_135 : decode cX0_searchAll 135 = .ok (.invokevirtual 63, 3) := by decide +kernel
theorem dX0_searchAll_138 : decode cX0_searchAll 138 = .ok (.iconst 0, 1) := by decide +kernel
theorem dX0_searchAll_139 : decode cX0_searchAll 139 = .ok (.iconst 0, 1) := by decide +kernel
theorem dX0_searchAll_140 : decode cX0_searchAll 140 = .ok (.invokestatic 67, 3) := by decide +kernel
theorem dX0_searchAll_143 : decode cX0_searchAll 143 = .ok (.return_, 1) := by decide +kernel
theorem dX0_breakOn_0 : decode cX0_breakOn 0 = .ok (.iload_n 2, 1) := by decide +kernel
theorem dX0_breakOn_1 : decode cX0_breakOn 1 = .ok (.ifCond .ne 12, 3) := by decide +kernel
theorem dX0_breakOn_4 : decode cX0_breakOn 4 = .ok (.aload_n 0, 1) := by decide +kernel
theorem dX0_breakOn_5 : decode cX0_breakOn 5 = .ok (.iload 4, 2) := by decide +kernel
theorem dX0_breakOn_7 : decode cX0_breakOn 7 = .ok (.iload 5, 2) := by decide +kernel
theorem dX0_breakOn_9 : decode cX0_breakOn 9 = .ok (.invokevirtual 71, 3) := by decide +kernel
theorem dX0_breakOn_12 : decode cX0_breakOn 12 = .ok (.return_, 1) := by decide +kernel
theorem dX0_breakOn_13 : decode cX0_breakOn 13 = .ok (.iload_n 1, 1) := by decide +kernel
theorem dX0_breakOn_14 : decode cX0_breakOn 14 = .ok (.bipush 20, 2) := by decide +kernel
theorem dX0_breakOn_16 : decode cX0_breakOn 16 = .ok (.if_icmp .ge 19, 3) := by decide +kernel
theorem dX0_breakOn_19 : decode cX0_breakOn 19 = .ok (.iload 5, 2) := by decide +kernel
theorem dX0_breakOn_21 : decode cX0_breakOn 21 = .ok (.aload_n 0, 1) := by decide +kernel
theorem dX0_breakOn_22 : decode cX0_breakOn 22 = .ok (.iload_n 2, 1) := by decide +kernel
theorem dX0_breakOn_23 : decode cX0_breakOn 23 = .ok (.iload_n 3, 1) := by decide +kernel
theorem dX0_breakOn_24 : decode cX0_breakOn 24 = .ok (.invokevirtual 75, 3) := by decide +kernel
theorem dX0_breakOn_27 : decode cX0_breakOn 27 = .ok (.iadd, 1) := by decide +kernel
theorem dX0_breakOn_28 : decode cX0_breakOn 28 = .ok (.aload_n 0, 1) := by decide +kernel
theorem dX0_breakOn_29 : decode cX0_breakOn 29 = .ok (.getfield 54, 3) := by decide +kernel
theorem dX0_breakOn_32 : decode cX0_breakOn 32 = .ok (.if_icmp .le 4, 3) := by decide +kernel
theorem dX0_breakOn_35 : decode cX0_breakOn 35 = .ok (.return_, 1) := by decide +kernel
theorem dX0_breakOn_36 : decode cX0_breakOn 36 = .ok (.aload_n 0, 1) := by decide +kernel
theorem dX0_breakOn_37 : decode cX0_breakOn 37 = .ok (.getfield 78, 3) := by decide +kernel
theorem dX0_breakOn_40 : decode cX0_breakOn 40 = .ok (.istore 6, 2) := by decide +kernel
theorem dX0_breakOn_42 : decode cX0_breakOn 42 = .ok (.iload_n 3, 1) := by decide +kernel
theorem dX0_breakOn_43 : decode cX0_breakOn 43 = .ok (.istore 7, 2) := by decide +kernel
theorem dX0_breakOn_45 : decode cX0_breakOn 45 = .ok (.iconst 0, 1) := by decide +kernel
theorem dX0_breakOn_46 : decode cX0_breakOn 46 = .ok (.istore 8, 2) := by decide +kernel
theorem dX0_breakOn_48 : decode cX0_breakOn 48 = .ok (.iload 8, 2) := by decide +kernel
theorem dX0_breakOn_50 : decode cX0_breakOn 50 = .ok (.bipush 12, 2) := by decide +kernel
theorem dX0_breakOn_52 : decode cX0_breakOn 52 = .ok (.if_icmp .ge 84, 3) := by decide +kernel
theorem dX0_breakOn_55 : decode cX0_breakOn 55 = .ok (.iload 6, 2) := by decide +kernel
theorem dX0_breakOn_57 : decode cX0_breakOn 57 = .ok (.ifCond .eq 79, 3) := by decide +kernel
theorem dX0_breakOn_60 : decode cX0_breakOn 60 = .ok (.iload 6, 2) := by decide +kernel
theorem dX0_breakOn_62 : decode cX0_breakOn 62 = .ok (.iload 6, 2) := by decide +kernel
theorem dX0_breakOn_64 : decode cX0_breakOn 64 = .ok (.ineg, 1) := by decide +kernel
theorem dX0_breakOn_65 : decode cX0_breakOn 65 = .ok (.iand, 1) := by decide +kernel
theorem dX0_breakOn_66 : decode cX0_breakOn 66 = .ok (.istore 9, 2) := by decide +kernel
theorem dX0_breakOn_68 : decode cX0_breakOn 68 = .ok (.iload 9, 2) := by decide +kernel
theorem dX0_breakOn_70 : decode cX0_breakOn 70 = .ok (.iconst 1, 1) := by decide +kernel
theorem dX0_breakOn_71 : decode cX0_breakOn 71 = .ok (.isub, 1) := by decide +kernel
theorem dX0_breakOn_72 : decode cX0_breakOn 72 = .ok (.invokestatic 81, 3) := by decide +kernel
theorem dX0_breakOn_75 : decode cX0_breakOn 75 = .ok (.istore 10, 2) := by decide +kernel
theorem dX0_breakOn_77 : decode cX0_breakOn 77 = .ok (.iload 6, 2) := by decide +kernel
theorem dX0_breakOn_79 : decode cX0_breakOn 79 = .ok (.iload 9, 2) := by decide +kernel
theorem dX0_breakOn_81 : decode cX0_breakOn 81 = .ok (.ixor, 1) := by decide +kernel
theorem dX0_breakOn_82 : decode cX0_breakOn 82 = .ok (.istore 6, 2) := by decide +kernel
theorem dX0_breakOn_84 : decode cX0_breakOn 84 = .ok (.iload 7, 2) := by decide +kernel
theorem dX0_breakOn_86 : decode cX0_breakOn 86 = .ok (.iload 9, 2) := by decide +kernel
theorem dX0_breakOn_88 : decode cX0_breakOn 88 = .ok (.ixor, 1) := by decide +kernel
theorem dX0_breakOn_89 : decode cX0_breakOn 89 = .ok (.istore 7, 2) := by decide +kernel
theorem dX0_breakOn_91 : decode cX0_breakOn 91 = .ok (.iload_n 2, 1) := by decide +kernel
theorem dX0_breakOn_92 : decode cX0_breakOn 92 = .ok (.aload_n 0, 1) := by decide +kernel
theorem dX0_breakOn_93 : decode cX0_breakOn 93 = .ok (.getfield 18, 3) := by decide +kernel
theorem dX0_breakOn_96 : decode cX0_breakOn 96 = .ok (.iload 10, 2) := by decide +kernel
theorem dX0_breakOn_98 : decode cX0_breakOn 98 = .ok (.iaload, 1) := by decide +kernel
theorem dX0_breakOn_99 : decode cX0_breakOn 99 = .ok (.iconst (-1), 1) := by decide +kernel
theorem dX0_breakOn_100 : decode cX0_breakOn 100 = .ok (.ixor, 1) := by decide +kernel
theorem dX0_breakOn_101 : decode cX0_breakOn 101 = .ok (.iand, 1) := by decide +kernel
theorem dX0_breakOn_102 : decode cX0_breakOn 102 = .ok (.istore 11, 2) := by decide +kernel
theorem dX0_breakOn_104 : decode cX0_breakOn 104 = .ok (.aload_n 0, 1) := by decide +kernel
theorem dX0_breakOn_105 : decode cX0_breakOn 105 = .ok (.iload_n 1, 1) := by decide +kernel
theorem dX0_breakOn_106 : decode cX0_breakOn 106 = .ok (.iconst 1, 1) := by decide +kernel
theorem dX0_breakOn_107 : decode cX0_breakOn 107 = .ok (.iadd, 1) := by decide +kernel
theorem dX0_breakOn_108 : decode cX0_breakOn 108 = .ok (.iload 11, 2) := by decide +kernel
theorem dX0_breakOn_110 : decode cX0_breakOn 110 = .ok (.iload 7, 2) := by decide +kernel
theorem dX0_breakOn_112 : decode cX0_breakOn 112 = .ok (.iload 4, 2) := by decide +kernel
theorem dX0_breakOn_114 : decode cX0_breakOn 114 = .ok (.iload 9, 2) := by decide +kernel
theorem dX0_breakOn_116 : decode cX0_breakOn 116 = .ok (.ior, 1) := by decide +kernel
theorem dX0_breakOn_117 : decode cX0_breakOn 117 = .ok (.iload 5, 2) := by decide +kernel
theorem dX0_breakOn_119 : decode cX0_breakOn 119 = .ok (.aload_n 0, 1) := by decide +kernel
theorem dX0_breakOn_120 : decode cX0_breakOn 120 = .ok (.getfield 9, 3) := by decide +kernel
theorem dX0_breakOn_123 : decode cX0_breakOn 123 = .ok (.iload 10, 2) := by decide +kernel
theorem dX0_breakOn_125 : decode cX0_breakOn 125 = .ok (.iaload, 1) := by decide +kernel
theorem dX0_breakOn_126 : decode cX0_breakOn 126 = .ok (.iadd, 1) := by decide +kernel
theorem dX0_breakOn_127 : decode cX0_breakOn 127 = .ok (.invokestatic 67, 3) := by decide +kernel
theorem dX0_breakOn_130 : decode cX0_breakOn 130 = .ok (.iinc 8 1, 3) := by decide +kernel
theorem dX0_breakOn_133 : decode cX0_breakOn 133 = .ok (.goto (-85), 3) := by decide +kernel
theorem dX0_breakOn_136 : decode cX0_breakOn 136 = .ok (.return_, 1) := by decide +kernel
theorem dX0_noteSet_0 : decode cX0_noteSet 0 = .ok (.iload_n 2, 1) := by decide +kernel
theorem dX0_noteSet_1 : decode cX0_noteSet 1 = .ok (.aload_n 0, 1) := by decide +kernel
theorem dX0_noteSet_2 : decode cX0_noteSet 2 = .ok (.getfield 54, 3) := by decide +kernel
theorem dX0_noteSet_5 : decode cX0_noteSet 5 = .ok (.if_icmp .le 4, 3) := by decide +kernel
theorem dX0_noteSet_8 : decode cX0_noteSet 8 = .ok (.return_, 1) := by decide +kernel
theorem dX0_noteSet_9 : decode cX0_noteSet 9 = .ok (.iload_n 2, 1) := by decide +kernel
theorem dX0_noteSet_10 : decode cX0_noteSet 10 = .ok (.aload_n 0, 1) := by decide +kernel
theorem dX0_noteSet_11 : decode cX0_noteSet 11 = .ok (.getfield 54, 3) := by decide +kernel
theorem dX0_noteSet_14 : decode cX0_noteSet 14 = .ok (.if_icmp .lt 10, 3) := by decide +kernel
theorem dX0_noteSet_17 : decode cX0_noteSet 17 = .ok (.aload_n 0, 1) := by decide +kernel
theorem dX0_noteSet_18 : decode cX0_noteSet 18 = .ok (.getfield 60, 3) := by decide +kernel
theorem dX0_noteSet_21 : decode cX0_noteSet 21 = .ok (.ifCond .ne 18, 3) := by decide +kernel
theorem dX0_noteSet_24 : decode cX0_noteSet 24 = .ok (.aload_n 0, 1) := by decide +kernel
theorem dX0_noteSet_25 : decode cX0_noteSet 25 = .ok (.iload_n 2, 1) := by decide +kernel
theorem dX0_noteSet_26 : decode cX0_noteSet 26 = .ok (.putfield 54, 3) := by decide +kernel
theorem dX0_noteSet_29 : decode cX0_noteSet 29 = .ok (.aload_n 0, 1) := by decide +kernel
theorem dX0_noteSet_30 : decode cX0_noteSet 30 = .ok (.iload_n 1, 1) := by decide +kernel
theorem dX0_noteSet_31 : decode cX0_noteSet 31 = .ok (.putfield 57, 3) := by decide +kernel
theorem dX0_noteSet_34 : decode cX0_noteSet 34 = .ok (.aload_n 0, 1) := by decide +kernel
theorem dX0_noteSet_35 : decode cX0_noteSet 35 = .ok (.iconst 0, 1) := by decide +kernel
theorem dX0_noteSet_36 : decode cX0_noteSet 36 = .ok (.putfield 60, 3) := by decide +kernel
theorem dX0_noteSet_39 : decode cX0_noteSet 39 = .ok (.aload_n 0, 1) := by decide +kernel
theorem dX0_noteSet_40 : decode cX0_noteSet 40 = .ok (.aload_n 0, 1) := by decide +kernel
theorem dX0_noteSet_41 : decode cX0_noteSet 41 = .ok (.getfield 57, 3) := by decide +kernel
theorem dX0_noteSet_44 : decode cX0_noteSet 44 = .ok (.iload_n 1, 1) := by decide +kernel
theorem dX0_noteSet_45 : decode cX0_noteSet 45 = .ok (.invokestatic 87, 3) := by decide +kernel
theorem dX0_noteSet_48 : decode cX0_noteSet 48 = .ok (.putfield 57, 3) := by decide +kernel
theorem dX0_noteSet_51 : decode cX0_noteSet 51 = .ok (.aload_n 0, 1) := by decide +kernel
theorem dX0_noteSet_52 : decode cX0_noteSet 52 = .ok (.dup, 1) := by decide +kernel
theorem dX0_noteSet_53 : decode cX0_noteSet 53 = .ok (.getfield 60, 3) := by decide +kernel
theorem dX0_noteSet_56 : decode cX0_noteSet 56 = .ok (.iconst 1, 1) := by decide +kernel
theorem dX0_noteSet_57 : decode cX0_noteSet 57 = .ok (.iadd, 1) := by decide +kernel
theorem dX0_noteSet_58 : decode cX0_noteSet 58 = .ok (.putfield 60, 3) := by decide +kernel
theorem dX0_noteSet_61 : decode cX0_noteSet 61 = .ok (.return_, 1) := by decide +kernel
theorem dX0_costAtLeast_0 : decode cX0_costAtLeast 0 = .ok (.iconst 0, 1) := by decide +kernel
theorem dX0_costAtLeast_1 : decode cX0_costAtLeast 1 = .ok (.istore_n 3, 1) := by decide +kernel
theorem dX0_costAtLeast_2 : decode cX0_costAtLeast 2 = .ok (.iconst 0, 1) := by decide +kernel
theorem dX0_costAtLeast_3 : decode cX0_costAtLeast 3 = .ok (.istore 4, 2) := by decide +kernel
theorem dX0_costAtLeast_5 : decode cX0_costAtLeast 5 = .ok (.bipush 31, 2) := by decide +kernel
theorem dX0_costAtLeast_7 : decode cX0_costAtLeast 7 = .ok (.istore 5, 2) := by decide +kernel
theorem dX0_costAtLeast_9 : decode cX0_costAtLeast 9 = .ok (.iconst 0, 1) := by decide +kernel
theorem dX0_costAtLeast_10 : decode cX0_costAtLeast 10 = .ok (.istore 6, 2) := by decide +kernel
theorem dX0_costAtLeast_12 : decode cX0_costAtLeast 12 = .ok (.iload 6, 2) := by decide +kernel
theorem dX0_costAtLeast_14 : decode cX0_costAtLeast 14 = .ok (.aload_n 0, 1) := by decide +kernel
theorem dX0_costAtLeast_15 : decode cX0_costAtLeast 15 = .ok (.getfield 30, 3) := by decide +kernel
theorem dX0_costAtLeast_18 : decode cX0_costAtLeast 18 = .ok (.if_icmp .ge 85, 3) := by decide +kernel
theorem dX0_costAtLeast_21 : decode cX0_costAtLeast 21 = .ok (.iload_n 1, 1) := by decide +kernel
theorem dX0_costAtLeast_22 : decode cX0_costAtLeast 22 = .ok (.iload 6, 2) := by decide +kernel
theorem dX0_costAtLeast_24 : decode cX0_costAtLeast 24 = .ok (.ishr, 1) := by decide +kernel
theorem dX0_costAtLeast_25 : decode cX0_costAtLeast 25 = .ok (.iconst 1, 1) := by decide +kernel
theorem dX0_costAtLeast_26 : decode cX0_costAtLeast 26 = .ok (.iand, 1) := by decide +kernel
theorem dX0_costAtLeast_27 : decode cX0_costAtLeast 27 = .ok (.ifCond .eq 70, 3) := by decide +kernel
theorem dX0_costAtLeast_30 : decode cX0_costAtLeast 30 = .ok (.aload_n 0, 1) := by decide +kernel
theorem dX0_costAtLeast_31 : decode cX0_costAtLeast 31 = .ok (.getfield 15, 3) := by decide +kernel
theorem dX0_costAtLeast_34 : decode cX0_costAtLeast 34 = .ok (.iload 6, 2) := by decide +kernel
theorem dX0_costAtLeast_36 : decode cX0_costAtLeast 36 = .ok (.iaload, 1) := by decide +kernel
theorem dX0_costAtLeast_37 : decode cX0_costAtLeast 37 = .ok (.iload_n 2, 1) := by decide +kernel
theorem dX0_costAtLeast_38 : decode cX0_costAtLeast 38 = .ok (.iand, 1) := by decide +kernel
theorem dX0_costAtLeast_39 : decode cX0_costAtLeast 39 = .ok (.istore 7, 2) := by decide +kernel
theorem dX0_costAtLeast_41 : decode cX0_costAtLeast 41 = .ok (.iload 7, 2) := by decide +kernel
theorem dX0_costAtLeast_43 : decode cX0_costAtLeast 43 = .ok (.invokestatic 81, 3) := by decide +kernel
theorem dX0_costAtLeast_46 : decode cX0_costAtLeast 46 = .ok (.istore 8, 2) := by decide +kernel
theorem dX0_costAtLeast_48 : decode cX0_costAtLeast 48 = .ok (.iload 8, 2) := by decide +kernel
theorem dX0_costAtLeast_50 : decode cX0_costAtLeast 50 = .ok (.ifCond .ne 7, 3) := by decide +kernel
theorem dX0_costAtLeast_53 : decode cX0_costAtLeast 53 = .ok (.sipush 280, 3) := by decide +kernel
theorem dX0_costAtLeast_56 : decode cX0_costAtLeast 56 = .ok (.ireturn, 1) := by decide +kernel
theorem dX0_costAtLeast_57 : decode cX0_costAtLeast 57 = .ok (.iload 8, 2) := by decide +kernel
theorem dX0_costAtLeast_59 : decode cX0_costAtLeast 59 = .ok (.iload 5, 2) := by decide +kernel
theorem dX0_costAtLeast_61 : decode cX0_costAtLeast 61 = .ok (.if_icmp .ge 13, 3) := by decide +kernel
theorem dX0_costAtLeast_64 : decode cX0_costAtLeast 64 = .ok (.iload 8, 2) := by decide +kernel
theorem dX0_costAtLeast_66 : decode cX0_costAtLeast 66 = .ok (.istore 5, 2) := by decide +kernel
theorem dX0_costAtLeast_68 : decode cX0_costAtLeast 68 = .ok (.aload_n 0, 1) := by decide +kernel
theorem dX0_costAtLeast_69 : decode cX0_costAtLeast 69 = .ok (.iload 7, 2) := by decide +kernel
theorem dX0_costAtLeast_71 : decode cX0_costAtLeast 71 = .ok (.putfield 78, 3) := by decide +kernel
theorem dX0_costAtLeast_74 : decode cX0_costAtLeast 74 = .ok (.iload 7, 2) := by decide +kernel
theorem dX0_costAtLeast_76 : decode cX0_costAtLeast 76 = .ok (.iload_n 3, 1) := by decide +kernel
theorem dX0_costAtLeast_77 : decode cX0_costAtLeast 77 = .ok (.iand, 1) := by decide +kernel
theorem dX0_costAtLeast_78 : decode cX0_costAtLeast 78 = .ok (.ifCond .ne 19, 3) := by decide +kernel
theorem dX0_costAtLeast_81 : decode cX0_costAtLeast 81 = .ok (.iload_n 3, 1) := by decide +kernel
theorem dX0_costAtLeast_82 : decode cX0_costAtLeast 82 = .ok (.iload 7, 2) := by decide +kernel
theorem dX0_costAtLeast_84 : decode cX0_costAtLeast 84 = .ok (.ior, 1) := by decide +kernel
theorem dX0_costAtLeast_85 : decode cX0_costAtLeast 85 = .ok (.istore_n 3, 1) := by decide +kernel
theorem dX0_costAtLeast_86 : decode cX0_costAtLeast 86 = .ok (.iload 4, 2) := by decide +kernel
theorem dX0_costAtLeast_88 : decode cX0_costAtLeast 88 = .ok (.aload_n 0, 1) := by decide +kernel
theorem dX0_costAtLeast_89 : decode cX0_costAtLeast 89 = .ok (.iload 7, 2) := by decide +kernel
theorem dX0_costAtLeast_91 : decode cX0_costAtLeast 91 = .ok (.invokevirtual 92, 3) := by decide +kernel
theorem dX0_costAtLeast_94 : decode cX0_costAtLeast 94 = .ok (.iadd, 1) := by decide +kernel
theorem dX0_costAtLeast_95 : decode cX0_costAtLeast 95 = .ok (.istore 4, 2) := by decide +kernel
theorem dX0_costAtLeast_97 : decode cX0_costAtLeast 97 = .ok (.iinc 6 1, 3) := by decide +kernel
theorem dX0_costAtLeast_100 : decode cX0_costAtLeast 100 = .ok (.goto (-88), 3) := by decide +kernel
theorem dX0_costAtLeast_103 : decode cX0_costAtLeast 103 = .ok (.iload 4, 2) := by decide +kernel
theorem dX0_costAtLeast_105 : decode cX0_costAtLeast 105 = .ok (.ireturn, 1) := by decide +kernel
theorem dX0_cheapestOf_0 : decode cX0_cheapestOf 0 = .ok (.iconst 1, 1) := by decide +kernel
theorem dX0_cheapestOf_1 : decode cX0_cheapestOf 1 = .ok (.istore_n 2, 1) := by decide +kernel
theorem dX0_cheapestOf_2 : decode cX0_cheapestOf 2 = .ok (.iload_n 2, 1) := by decide +kernel
theorem dX0_cheapestOf_3 : decode cX0_cheapestOf 3 = .ok (.bipush 9, 2) := by decide +kernel
theorem dX0_cheapestOf_5 : decode cX0_cheapestOf 5 = .ok (.if_icmp .ge 20, 3) := by decide +kernel
theorem dX0_cheapestOf_8 : decode cX0_cheapestOf 8 = .ok (.aload_n 0, 1) := by decide +kernel
theorem dX0_cheapestOf_9 : decode cX0_cheapestOf 9 = .ok (.getfield 21, 3) := by decide +kernel
theorem dX0_cheapestOf_12 : decode cX0_cheapestOf 12 = .ok (.iload_n 2, 1) := by decide +kernel
theorem dX0_cheapestOf_13 : decode cX0_cheapestOf 13 = .ok (.iaload, 1) := by decide +kernel
theorem dX0_cheapestOf_14 : decode cX0_cheapestOf 14 = .ok (.iload_n 1, 1) := by decide +kernel
theorem dX0_cheapestOf_15 : decode cX0_cheapestOf 15 = .ok (.iand, 1) := by decide +kernel
theorem dX0_cheapestOf_16 : decode cX0_cheapestOf 16 = .ok (.ifCond .ne 9, 3) := by decide +kernel
theorem dX0_cheapestOf_19 : decode cX0_cheapestOf 19 = .ok (.iinc 2 1, 3) := by decide +kernel
theorem dX0_cheapestOf_22 : decode cX0_cheapestOf 22 = .ok (.goto (-20), 3) := by decide +kernel
theorem dX0_cheapestOf_25 : decode cX0_cheapestOf 25 = .ok (.iload_n 2, 1) := by decide +kernel
theorem dX0_cheapestOf_26 : decode cX0_cheapestOf 26 = .ok (.ireturn, 1) := by decide +kernel
theorem dX1_init_0 : decode cX1_init 0 = .ok (.aload_n 0, 1) := by decide +kernel
theorem dX1_init_1 : decode cX1_init 1 = .ok (.invokespecial 3, 3) := by decide +kernel
theorem dX1_init_4 : decode cX1_init 4 = .ok (.aload_n 0, 1) := by decide +kernel
theorem dX1_init_5 : decode cX1_init 5 = .ok (.bipush 12, 2) := by decide +kernel
theorem dX1_init_7 : decode cX1_init 7 = .ok (.newarray .int, 2) := by decide +kernel
theorem dX1_init_9 : decode cX1_init 9 = .ok (.putfield 11, 3) := by decide +kernel
theorem dX1_init_12 : decode cX1_init 12 = .ok (.aload_n 0, 1) := by decide +kernel
theorem dX1_init_13 : decode cX1_init 13 = .ok (.bipush 20, 2) := by decide +kernel
theorem dX1_init_15 : decode cX1_init 15 = .ok (.newarray .int, 2) := by decide +kernel
theorem dX1_init_17 : decode cX1_init 17 = .ok (.putfield 15, 3) := by decide +kernel
theorem dX1_init_20 : decode cX1_init 20 = .ok (.aload_n 0, 1) := by decide +kernel
theorem dX1_init_21 : decode cX1_init 21 = .ok (.sipush 4096, 3) := by decide +kernel
theorem dX1_init_24 : decode cX1_init 24 = .ok (.newarray .byte, 2) := by decide +kernel
theorem dX1_init_26 : decode cX1_init 26 = .ok (.putfield 18, 3) := by decide +kernel
theorem dX1_init_29 : decode cX1_init 29 = .ok (.return_, 1) := by decide +kernel
theorem dX1_setUp_0 : decode cX1_setUp 0 = .ok (.aload_n 0, 1) := by decide +kernel
theorem dX1_setUp_1 : decode cX1_setUp 1 = .ok (.iconst 0, 1) := by decide +kernel
theorem dX1_setUp_2 : decode cX1_setUp 2 = .ok (.putfield 22, 3) := by decide +kernel
theorem dX1_setUp_5 : decode cX1_setUp 5 = .ok (.iconst 0, 1) := by decide +kernel
theorem dX1_setUp_6 : decode cX1_setUp 6 = .ok (.istore 4, 2) := by decide +kernel
theorem dX1_setUp_8 : decode cX1_setUp 8 = .ok (.iload 4, 2) := by decide +kernel
theorem dX1_setUp_10 : decode cX1_setUp 10 = .ok (.aload_n 1, 1) := by decide +kernel
theorem dX1_setUp_11 : decode cX1_setUp 11 = .ok (.getfield 26, 3) := by decide +kernel
theorem dX1_setUp_14 : decode cX1_setUp 14 = .ok (.if_icmp .ge 48, 3) := by decide +kernel
theorem dX1_setUp_17 : decode cX1_setUp 17 = .ok (.aload_n 0, 1) := by decide +kernel
theorem dX1_setUp_18 : decode cX1_setUp 18 = .ok (.getfield 22, 3) := by decide +kernel
theorem dX1_setUp_21 : decode cX1_setUp 21 = .ok (.bipush 12, 2) := by decide +kernel
theorem dX1_setUp_23 : decode cX1_setUp 23 = .ok (.if_icmp .ge 39, 3) := by decide +kernel
theorem dX1_setUp_26 : decode cX1_setUp 26 = .ok (.iload_n 3, 1) := by decide +kernel
theorem dX1_setUp_27 : decode cX1_setUp 27 = .ok (.iload 4, 2) := by decide +kernel
theorem dX1_setUp_29 : decode cX1_setUp 29 = .ok (.ishr, 1) := by decide +kernel
theorem dX1_setUp_30 : decode cX1_setUp 30 = .ok (.iconst 1, 1) := by decide +kernel
theorem dX1_setUp_31 : decode cX1_setUp 31 = .ok (.iand, 1) := by decide +kernel
theorem dX1_setUp_32 : decode cX1_setUp 32 = .ok (.ifCond .eq 24, 3) := by decide +kernel
theorem dX1_setUp_35 : decode cX1_setUp 35 = .ok (.aload_n 0, 1) := by decide +kernel
theorem dX1_setUp_36 : decode cX1_setUp 36 = .ok (.getfield 11, 3) := by decide +kernel
theorem dX1_setUp_39 : decode cX1_setUp 39 = .ok (.aload_n 0, 1) := by decide +kernel
theorem dX1_setUp_40 : decode cX1_setUp 40 = .ok (.getfield 22, 3) := by decide +kernel
theorem dX1_setUp_43 : decode cX1_setUp 43 = .ok (.iload 4, 2) := by decide +kernel
theorem dX1_setUp_45 : decode cX1_setUp 45 = .ok (.iastore, 1) := by decide +kernel
theorem dX1_setUp_46 : decode cX1_setUp 46 = .ok (.aload_n 0, 1) := by decide +kernel
theorem dX1_setUp_47 : decode cX1_setUp 47 = .ok (.dup, 1) := by decide +kernel
theorem dX1_setUp_48 : decode cX1_setUp 48 = .ok (.getfield 22, 3) := by decide +kernel
theorem dX1_setUp_51 : decode cX1_setUp 51 = .ok (.iconst 1, 1) := by decide +kernel
theorem dX1_setUp_52 : decode cX1_setUp 52 = .ok (.iadd, 1) := by decide +kernel
theorem dX1_setUp_53 : decode cX1_setUp 53 = .ok (.putfield 22, 3) := by decide +kernel
theorem dX1_setUp_56 : decode cX1_setUp 56 = .ok (.iinc 4 1, 3) := by decide +kernel
theorem dX1_setUp_59 : decode cX1_setUp 59 = .ok (.goto (-51), 3) := by decide +kernel
theorem dX1_setUp_62 : decode cX1_setUp 62 = .ok (.aload_n 0, 1) := by decide +kernel
theorem dX1_setUp_63 : decode cX1_setUp 63 = .ok (.iconst 0, 1) := by decide +kernel
theorem dX1_setUp_64 : decode cX1_setUp 64 = .ok (.putfield 31, 3) := by decide +kernel
theorem dX1_setUp_67 : decode cX1_setUp 67 = .ok (.iconst 0, 1) := by decide +kernel
theorem dX1_setUp_68 : decode cX1_setUp 68 = .ok (.istore 4, 2) := by decide +kernel
theorem dX1_setUp_70 : decode cX1_setUp 70 = .ok (.iload 4, 2) := by decide +kernel
theorem dX1_setUp_72 : decode cX1_setUp 72 = .ok (.aload_n 1, 1) := by decide +kernel
theorem dX1_setUp_73 : decode cX1_setUp 73 = .ok (.getfield 34, 3) := by decide +kernel
theorem dX1_setUp_76 : decode cX1_setUp 76 = .ok (.if_icmp .ge 57, 3) := by decide +kernel
theorem dX1_setUp_79 : decode cX1_setUp 79 = .ok (.aload_n 0, 1) := by decide +kernel
theorem dX1_setUp_80 : decode cX1_setUp 80 = .ok (.aload_n 1, 1) := by decide +kernel
theorem dX1_setUp_81 : decode cX1_setUp 81 = .ok (.getfield 35, 3) := by decide +kernel
theorem dX1_setUp_84 : decode cX1_setUp 84 = .ok (.iload 4, 2) := by decide +kernel
theorem dX1_setUp_86 : decode cX1_setUp 86 = .ok (.iaload, 1) := by decide +kernel
theorem dX1_setUp_87 : decode cX1_setUp 87 = .ok (.invokevirtual 38, 3) := by decide +kernel
theorem dX1_setUp_90 : decode cX1_setUp 90 = .ok (.istore 5, 2) := by decide +kernel
theorem dX1_setUp_92 : decode cX1_setUp 92 = .ok (.iload_n 2, 1) := by decide +kernel
theorem dX1_setUp_93 : decode cX1_setUp 93 = .ok (.iload 4, 2) := by decide +kernel
theorem dX1_setUp_95 : decode cX1_setUp 95 = .ok (.ishr, 1) := by decide +kernel
theorem dX1_setUp_96 : decode cX1_setUp 96 = .ok (.iconst 1, 1) := by decide +kernel
theorem dX1_setUp_97 : decode cX1_setUp 97 = .ok (.iand, 1) := by decide +kernel
theorem dX1_setUp_98 : decode cX1_setUp 98 = .ok (.ifCond .eq 29, 3) := by decide +kernel
theorem dX1_setUp_101 : decode cX1_setUp 101 = .ok (.iload 5, 2) := by decide +kernel
theorem dX1_setUp_103 : decode cX1_setUp 103 = .ok (.ifCond .eq 24, 3) := by decide +kernel
theorem dX1_setUp_106 : decode cX1_setUp 106 = .ok (.aload_n 0, 1) := by decide +kernel
theorem dX1_setUp_107 : decode cX1_setUp 107 = .ok (.getfield 15, 3) := by decide +kernel
theorem dX1_setUp_110 : decode cX1_setUp 110 = .ok (.aload_n 0, 1) := by decide +kernel
theorem dX1_setUp_111 : decode cX1_setUp 111 = .ok (.getfield 31, 3) := by decide +kernel
theorem dX1_setUp_114 : decode cX1_setUp 114 = .ok (.iload 5, 2) := by decide +kernel
theorem dX1_setUp_116 : decode cX1_setUp 116 = .ok (.iastore, 1) := by decide +kernel
theorem dX1_setUp_117 : decode cX1_setUp 117 = .ok (.aload_n 0, 1) := by decide +kernel
theorem dX1_setUp_118 : decode cX1_setUp 118 = .ok (.dup, 1) := by decide +kernel
theorem dX1_setUp_119 : decode cX1_setUp 119 = .ok (.getfield 31, 3) := by decide +kernel
theorem dX1_setUp_122 : decode cX1_setUp 122 = .ok (.iconst 1, 1) := by decide +kernel
theorem dX1_setUp_123 : decode cX1_setUp 123 = .ok (.iadd, 1) := by decide +kernel
theorem dX1_setUp_124 : decode cX1_setUp 124 = .ok (.putfield 31, 3) := by decide +kernel
theorem dX1_setUp_127 : decode cX1_setUp 127 = .ok (.iinc 4 1, 3) := by decide +kernel
theorem dX1_setUp_130 : decode cX1_setUp 130 = .ok (.goto (-60), 3) := by decide +kernel
theorem dX1_setUp_133 : decode cX1_setUp 133 = .ok (.return_, 1) := by decide +kernel
theorem dX1_renumbered_0 : decode cX1_renumbered 0 = .ok (.iconst 0, 1) := by decide +kernel
theorem dX1_renumbered_1 : decode cX1_renumbered 1 = .ok (.istore_n 2, 1) := by decide +kernel
theorem dX1_renumbered_2 : decode cX1_renumbered 2 = .ok (.iconst 0, 1) := by decide +kernel
theorem dX1_renumbered_3 : decode cX1_renumbered 3 = .ok (.istore_n 3, 1) := by decide +kernel
theorem dX1_renumbered_4 : decode cX1_renumbered 4 = .ok (.iload_n 3, 1) := by decide +kernel
theorem dX1_renumbered_5 : decode cX1_renumbered 5 = .ok (.aload_n 0, 1) := by decide +kernel
theorem dX1_renumbered_6 : decode cX1_renumbered 6 = .ok (.getfield 22, 3) := by decide +kernel
theorem dX1_renumbered_9 : decode cX1_renumbered 9 = .ok (.if_icmp .ge 24, 3) := by decide +kernel
theorem dX1_renumbered_12 : decode cX1_renumbered 12 = .ok (.iload_n 2, 1) := by decide +kernel
theorem dX1_renumbered_13 : decode cX1_renumbered 13 = .ok (.iload_n 1, 1) := by decide +kernel
theorem dX1_renumbered_14 : decode cX1_renumbered 14 = .ok (.aload_n 0, 1) := by decide +kernel
theorem dX1_renumbered_15 : decode cX1_renumbered 15 = .ok (.getfield 11, 3) := by decide +kernel
theorem dX1_renumbered_18 : decode cX1_renumbered 18 = .ok (.iload_n 3, 1) := by decide +kernel
theorem dX1_renumbered_19 : decode cX1_renumbered 19 = .ok (.iaload, 1) := by decide +kernel
theorem dX1_renumbered_20 : decode cX1_renumbered 20 = .ok (.ishr, 1) := by decide +kernel
theorem dX1_renumbered_21 : decode cX1_renumbered 21 = .ok (.iconst 1, 1) := by decide +kernel
theorem dX1_renumbered_22 : decode cX1_renumbered 22 = .ok (.iand, 1) := by decide +kernel
theorem dX1_renumbered_23 : decode cX1_renumbered 23 = .ok (.iload_n 3, 1) := by decide +kernel
theorem dX1_renumbered_24 : decode cX1_renumbered 24 = .ok (.ishl, 1) := by decide +kernel
theorem dX1_renumbered_25 : decode cX1_renumbered 25 = .ok (.ior, 1) := by decide +kernel
theorem dX1_renumbered_26 : decode cX1_renumbered 26 = .ok (.istore_n 2, 1) := by decide +kernel
theorem dX1_renumbered_27 : decode cX1_renumbered 27 = .ok (.iinc 3 1, 3) := by decide +kernel
theorem dX1_renumbered_30 : decode cX1_renumbered 30 = .ok (.goto (-26), 3) := by decide +kernel
theorem dX1_renumbered_33 : decode cX1_renumbered 33 = .ok (.iload_n 2, 1) := by decide +kernel
theorem dX1_renumbered_34 : decode cX1_renumbered 34 = .ok (.ireturn, 1) := by decide +kernel
theorem dX1_playTaking_0 : decode cX1_playTaking 0 = .ok (.aload_n 0, 1) := by decide +kernel
theorem dX1_playTaking_1 : decode cX1_playTaking 1 = .ok (.aload_n 1, 1) := by decide +kernel
theorem dX1_playTaking_2 : decode cX1_playTaking 2 = .ok (.iload_n 2, 1) := by decide +kernel
theorem dX1_playTaking_3 : decode cX1_playTaking 3 = .ok (.iload_n 3, 1) := by decide +kernel
theorem dX1_playTaking_4 : decode cX1_playTaking 4 = .ok (.invokevirtual 42, 3) := by decide +kernel
theorem dX1_playTaking_7 : decode cX1_playTaking 7 = .ok (.iconst 1, 1) := by decide +kernel
theorem dX1_playTaking_8 : decode cX1_playTaking 8 = .ok (.aload_n 0, 1) := by decide +kernel
theorem dX1_playTaking_9 : decode cX1_playTaking 9 = .ok (.getfield 22, 3) := by decide +kernel
theorem dX1_playTaking_12 : decode cX1_playTaking 12 = .ok (.ishl, 1) := by decide +kernel
theorem dX1_playTaking_13 : decode cX1_playTaking 13 = .ok (.iconst 1, 1) := by decide +kernel
theorem dX1_playTaking_14 : decode cX1_playTaking 14 = .ok (.isub, 1) := by decide +kernel
theorem dX1_playTaking_15 : decode cX1_playTaking 15 = .ok (.istore 4, 2) := by decide +kernel
theorem dX1_playTaking_17 : decode cX1_playTaking 17 = .ok (.iconst 0, 1) := by decide +kernel
theorem dX1_playTaking_18 : decode cX1_playTaking 18 = .ok (.istore 5, 2) := by decide +kernel
theorem dX1_playTaking_20 : decode cX1_playTaking 20 = .ok (.iload 5, 2) := by decide +kernel
theorem dX1_playTaking_22 : decode cX1_playTaking 22 = .ok (.iload 4, 2) := by decide +kernel
theorem dX1_playTaking_24 : decode cX1_playTaking 24 = .ok (.if_icmp .gt 43, 3) := by decide +kernel
theorem dX1_playTaking_27 : decode cX1_playTaking 27 = .ok (.aload_n 0, 1) := by decide +kernel
theorem dX1_playTaking_28 : decode cX1_playTaking 28 = .ok (.getfield 18, 3) := by decide +kernel
theorem dX1_playTaking_31 : decode cX1_playTaking 31 = .ok (.iload 5, 2) := by decide +kernel
theorem dX1_playTaking_33 : decode cX1_playTaking 33 = .ok (.iconst 0, 1) := by decide +kernel
theorem dX1_playTaking_34 : decode cX1_playTaking 34 = .ok (.bastore, 1) := by decide +kernel
theorem dX1_playTaking_35 : decode cX1_playTaking 35 = .ok (.aload_n 0, 1) := by decide +kernel
theorem dX1_playTaking_36 : decode cX1_playTaking 36 = .ok (.iload 5, 2) := by decide +kernel
theorem dX1_playTaking_38 : decode cX1_playTaking 38 = .ok (.invokevirtual 46, 3) := by decide +kernel
theorem dX1_playTaking_41 : decode cX1_playTaking 41 = .ok (.ifCond .eq 20, 3) := by decide +kernel
theorem dX1_playTaking_44 : decode cX1_playTaking 44 = .ok (.aload_n 0, 1) := by decide +kernel
theorem dX1_playTaking_45 : decode cX1_playTaking 45 = .ok (.iload 5, 2) := by decide +kernel
theorem dX1_playTaking_47 : decode cX1_playTaking 47 = .ok (.invokevirtual 50, 3) := by decide +kernel
theorem dX1_playTaking_50 : decode cX1_playTaking 50 = .ok (.ifCond .lt 11, 3) := by decide +kernel
theorem dX1_playTaking_53 : decode cX1_playTaking 53 = .ok (.aload_n 0, 1) := by decide +kernel
theorem dX1_playTaking_54 : decode cX1_playTaking 54 = .ok (.getfield 18, 3) := by decide +kernel
theorem dX1_playTaking_57 : decode cX1_playTaking 57 = .ok (.iload 5, 2) := by decide +kernel
theorem dX1_playTaking_59 : decode cX1_playTaking 59 = .ok (.iconst 1, 1) := by decide +kernel
theorem dX1_playTaking_60 : decode cX1_playTaking 60 = .ok (.bastore, 1) := by decide +kernel
theorem dX1_playTaking_61 : decode cX1_playTaking 61 = .ok (.iinc 5 1, 3) := by decide +kernel
theorem dX1_playTaking_64 : decode cX1_playTaking 64 = .ok (.goto (-44), 3) := by decide +kernel
theorem dX1_playTaking_67 : decode cX1_playTaking 67 = .ok (.aload_n 0, 1) := by decide +kernel
theorem dX1_playTaking_68 : decode cX1_playTaking 68 = .ok (.iload 4, 2) := by decide +kernel
theorem dX1_playTaking_70 : decode cX1_playTaking 70 = .ok (.invokevirtual 50, 3) := by decide +kernel
theorem dX1_playTaking_73 : decode cX1_playTaking 73 = .ok (.istore 5, 2) := by decide +kernel
theorem dX1_playTaking_75 : decode cX1_playTaking 75 = .ok (.aload_n 0, 1) := by decide +kernel
theorem dX1_playTaking_76 : decode cX1_playTaking 76 = .ok (.iload 5, 2) := by decide +kernel
theorem dX1_playTaking_78 : decode cX1_playTaking 78 = .ok (.ifCond .ge 8, 3) := by decide +kernel
theorem dX1_playTaking_81 : decode cX1_playTaking 81 = .ok (.bipush (-4), 2) := by decide +kernel
theorem dX1_playTaking_83 : decode cX1_playTaking 83 = .ok (.goto 10, 3) := by decide +kernel
theorem dX1_playTaking_86 : decode cX1_playTaking 86 = .ok (.aload_n 0, 1) := by decide +kernel
theorem dX1_playTaking_87 : decode cX1_playTaking 87 = .ok (.getfield 11, 3) := by decide +kernel
theorem dX1_playTaking_90 : decode cX1_playTaking 90 = .ok (.iload 5, 2) := by decide +kernel
theorem dX1_playTaking_92 : decode cX1_playTaking 92 = .ok (.iaload, 1) := by decide +kernel
theorem dX1_playTaking_93 : decode cX1_playTaking 93 = .ok (.putfield 53, 3) := by decide +kernel
theorem dX1_playTaking_96 : decode cX1_playTaking 96 = .ok (.return_, 1) := by decide +kernel
theorem dX1_anyWhole_0 : decode cX1_anyWhole 0 = .ok (.iconst 0, 1) := by decide +kernel
theorem dX1_anyWhole_1 : decode cX1_anyWhole 1 = .ok (.istore_n 2, 1) := by decide +kernel
theorem dX1_anyWhole_2 : decode cX1_anyWhole 2 = .ok (.iload_n 2, 1) := by decide +kernel
theorem dX1_anyWhole_3 : decode cX1_anyWhole 3 = .ok (.aload_n 0, 1) := by decide +kernel
theorem dX1_anyWhole_4 : decode cX1_anyWhole 4 = .ok (.getfield 31, 3) := by decide +kernel
theorem dX1_anyWhole_7 : decode cX1_anyWhole 7 = .ok (.if_icmp .ge 24, 3) := by decide +kernel
theorem dX1_anyWhole_10 : decode cX1_anyWhole 10 = .ok (.aload_n 0, 1) := by decide +kernel
theorem dX1_anyWhole_11 : decode cX1_anyWhole 11 = .ok (.getfield 15, 3) := by decide +kernel
theorem dX1_anyWhole_14 : decode cX1_anyWhole 14 = .ok (.iload_n 2, 1) := by decide +kernel
theorem dX1_anyWhole_15 : decode cX1_anyWhole 15 = .ok (.iaload, 1) := by decide +kernel
theorem dX1_anyWhole_16 : decode cX1_anyWhole 16 = .ok (.iload_n 1, 1) := by decide +kernel
theorem dX1_anyWhole_17 : decode cX1_anyWhole 17 = .ok (.iconst (-1), 1) := by decide +kernel
theorem dX1_anyWhole_18 : decode cX1_anyWhole 18 = .ok (.ixor, 1) := by decide +kernel
theorem dX1_anyWhole_19 : decode cX1_anyWhole 19 = .ok (.iand, 1) := by decide +kernel
theorem dX1_anyWhole_20 : decode cX1_anyWhole 20 = .ok (.ifCond .ne 5, 3) := by decide +kernel
theorem dX1_anyWhole_23 : decode cX1_anyWhole 23 = .ok (.iconst 1, 1) := by decide +kernel
theorem dX1_anyWhole_24 : decode cX1_anyWhole 24 = .ok (.ireturn, 1) := by decide +kernel
theorem dX1_anyWhole_25 : decode cX1_anyWhole 25 = .ok (.iinc 2 1, 3) := by decide +kernel
theorem dX1_anyWhole_28 : decode cX1_anyWhole 28 = .ok (.goto (-26), 3) := by decide +kernel
theorem dX1_anyWhole_31 : decode cX1_anyWhole 31 = .ok (.iconst 0, 1) := by decide +kernel
theorem dX1_anyWhole_32 : decode cX1_anyWhole 32 = .ok (.ireturn, 1) := by decide +kernel
theorem dX1_winningPlace_0 : decode cX1_winningPlace 0 = .ok (.iconst 0, 1) := by decide +kernel
theorem dX1_winningPlace_1 : decode cX1_winningPlace 1 = .ok (.istore_n 2, 1) := by decide +kernel
theorem dX1_winningPlace_2 : decode cX1_winningPlace 2 = .ok (.iload_n 2, 1) := by decide +kernel
theorem dX1_winningPlace_3 : decode cX1_winningPlace 3 = .ok (.aload_n 0, 1) := by decide +kernel
theorem dX1_winningPlace_4 : decode cX1_winningPlace 4 = .ok (.getfield 22, 3) := by decide +kernel
theorem dX1_winningPlace_7 : decode cX1_winningPlace 7 = .ok (.if_icmp .ge 32, 3) := by decide +kernel
theorem dX1_winningPlace_10 : decode cX1_winningPlace 10 = .ok (.iconst 1, 1) := by decide +kernel
theorem dX1_winningPlace_11 : decode cX1_winningPlace 11 = .ok (.iload_n 2, 1) := by decide +kernel
theorem dX1_winningPlace_12 : decode cX1_winningPlace 12 = .ok (.ishl, 1) := by decide +kernel
theorem dX1_winningPlace_13 : decode cX1_winningPlace 13 = .ok (.istore_n 3, 1) := by decide +kernel
theorem dX1_winningPlace_14 : decode cX1_winningPlace 14 = .ok (.iload_n 1, 1) := by decide +kernel
theorem dX1_winningPlace_15 : decode cX1_winningPlace 15 = .ok (.iload_n 3, 1) := by decide +kernel
theorem dX1_winningPlace_16 : decode cX1_winningPlace 16 = .ok (.iand, 1) := by decide +kernel
theorem dX1_winningPlace_17 : decode cX1_winningPlace 17 = .ok (.ifCond .eq 16, 3) := by decide +kernel
theorem dX1_winningPlace_20 : decode cX1_winningPlace 20 = .ok (.aload_n 0, 1) := by decide +kernel
theorem dX1_winningPlace_21 : decode cX1_winningPlace 21 = .ok (.getfield 18, 3) := by decide +kernel
theorem dX1_winningPlace_24 : decode cX1_winningPlace 24 = .ok (.iload_n 1, 1) := by decide +kernel
theorem dX1_winningPlace_25 : decode cX1_winningPlace 25 = .ok (.iload_n 3, 1) := by decide +kernel
theorem dX1_winningPlace_26 : decode cX1_winningPlace 26 = .ok (.ixor, 1) := by decide +kernel
theorem dX1_winningPlace_27 : decode cX1_winningPlace 27 = .ok (.baload, 1) := by decide +kernel
theorem dX1_winningPlace_28 : decode cX1_winningPlace 28 = .ok (.ifCond .ne 5, 3) := by decide +kernel
theorem dX1_winningPlace_31 : decode cX1_winningPlace 31 = .ok (.iload_n 2, 1) := by decide +kernel
theorem dX1_winningPlace_32 : decode cX1_winningPlace 32 = .ok (.ireturn, 1) := by decide +kernel
theorem dX1_winningPlace_33 : decode cX1_winningPlace 33 = .ok (.iinc 2 1, 3) := by decide +kernel
theorem dX1_winningPlace_36 : decode cX1_winningPlace 36 = .ok (.goto (-34), 3) := by decide +kernel
theorem dX1_winningPlace_39 : decode cX1_winningPlace 39 = .ok (.iconst (-1), 1) := by decide +kernel
theorem dX1_winningPlace_40 : decode cX1_winningPlace 40 = .ok (.ireturn, 1) := by decide +kernel
theorem dX1_playLaying_0 : decode cX1_playLaying 0 = .ok (.aload_n 0, 1) := by decide +kernel
theorem dX1_playLaying_1 : decode cX1_playLaying 1 = .ok (.aload_n 1, 1) := by decide +kernel
theorem dX1_playLaying_2 : decode cX1_playLaying 2 = .ok (.iload_n 2, 1) := by decide +kernel
theorem dX1_playLaying_3 : decode cX1_playLaying 3 = .ok (.iload_n 3, 1) := by decide +kernel
theorem dX1_playLaying_4 : decode cX1_playLaying 4 = .ok (.invokevirtual 42, 3) := by decide +kernel
theorem dX1_playLaying_7 : decode cX1_playLaying 7 = .ok (.aload_n 0, 1) := by decide +kernel
theorem dX1_playLaying_8 : decode cX1_playLaying 8 = .ok (.getfield 18, 3) := by decide +kernel
theorem dX1_playLaying_11 : decode cX1_playLaying 11 = .ok (.iconst 0, 1) := by decide +kernel
theorem dX1_playLaying_12 : decode cX1_playLaying 12 = .ok (.iconst 0, 1) := by decide +kernel
theorem dX1_playLaying_13 : decode cX1_playLaying 13 = .ok (.bastore, 1) := by decide +kernel
theorem dX1_playLaying_14 : decode cX1_playLaying 14 = .ok (.iconst 1, 1) := by decide +kernel
theorem dX1_playLaying_15 : decode cX1_playLaying 15 = .ok (.aload_n 0, 1) := by decide +kernel
theorem dX1_playLaying_16 : decode cX1_playLaying 16 = .ok (.getfield 22, 3) := by decide +kernel
theorem dX1_playLaying_19 : decode cX1_playLaying 19 = .ok (.ishl, 1) := by decide +kernel
theorem dX1_playLaying_20 : decode cX1_playLaying 20 = .ok (.iconst 1, 1) := by decide +kernel
theorem dX1_playLaying_21 : decode cX1_playLaying 21 = .ok (.isub, 1) := by decide +kernel
theorem dX1_playLaying_22 : decode cX1_playLaying 22 = .ok (.istore 5, 2) := by decide +kernel
theorem dX1_playLaying_24 : decode cX1_playLaying 24 = .ok (.iconst 1, 1) := by decide +kernel
theorem dX1_playLaying_25 : decode cX1_playLaying 25 = .ok (.istore 6, 2) := by decide +kernel
theorem dX1_playLaying_27 : decode cX1_playLaying 27 = .ok (.iload 6, 2) := by decide +kernel
theorem dX1_playLaying_29 : decode cX1_playLaying 29 = .ok (.iload 5, 2) := by decide +kernel
theorem dX1_playLaying_31 : decode cX1_playLaying 31 = .ok (.if_icmp .gt 29, 3) := by decide +kernel
theorem dX1_playLaying_34 : decode cX1_playLaying 34 = .ok (.aload_n 0, 1) := by decide +kernel
theorem dX1_playLaying_35 : decode cX1_playLaying 35 = .ok (.iload 6, 2) := by decide +kernel
theorem dX1_playLaying_37 : decode cX1_playLaying 37 = .ok (.iload 4, 2) := by decide +kernel
theorem dX1_playLaying_39 : decode cX1_playLaying 39 = .ok (.invokevirtual 56, 3) := by decide +kernel
theorem dX1_playLaying_42 : decode cX1_playLaying 42 = .ok (.aload_n 0, 1) := by decide +kernel
theorem dX1_playLaying_43 : decode cX1_playLaying 43 = .ok (.getfield 18, 3) := by decide +kernel
theorem dX1_playLaying_46 : decode cX1_playLaying 46 = .ok (.iload 6, 2) := by decide +kernel
theorem dX1_playLaying_48 : decode cX1_playLaying 48 = .ok (.aload_n 0, 1) := by decide +kernel
theorem dX1_playLaying_49 : decode cX1_playLaying 49 = .ok (.getfield 60, 3) := by decide +kernel
theorem dX1_playLaying_52 : decode cX1_playLaying 52 = .ok (.i2b, 1) := by decide +kernel
theorem dX1_playLaying_53 : decode cX1_playLaying 53 = .ok (.bastore, 1) := by decide +kernel
theorem dX1_playLaying_54 : decode cX1_playLaying 54 = .ok (.iinc 6 1, 3) := by decide +kernel
theorem dX1_playLaying_57 : decode cX1_playLaying 57 = .ok (.goto (-30), 3) := by decide +kernel
theorem dX1_playLaying_60 : decode cX1_playLaying 60 = .ok (.aload_n 0, 1) := by decide +kernel
theorem dX1_playLaying_61 : decode cX1_playLaying 61 = .ok (.aload_n 0, 1) := by decide +kernel
theorem dX1_playLaying_62 : decode cX1_playLaying 62 = .ok (.getfield 11, 3) := by decide +kernel
theorem dX1_playLaying_65 : decode cX1_playLaying 65 = .ok (.aload_n 0, 1) := by decide +kernel
theorem dX1_playLaying_66 : decode cX1_playLaying 66 = .ok (.getfield 53, 3) := by decide +kernel
theorem dX1_playLaying_69 : decode cX1_playLaying 69 = .ok (.iaload, 1) := by decide +kernel
theorem dX1_playLaying_70 : decode cX1_playLaying 70 = .ok (.putfield 53, 3) := by decide +kernel
theorem dX1_playLaying_73 : decode cX1_playLaying 73 = .ok (.return_, 1) := by decide +kernel
theorem dX1_findBest_0 : decode cX1_findBest 0 = .ok (.aload_n 0, 1) := by decide +kernel
theorem dX1_findBest_1 : decode cX1_findBest 1 = .ok (.iload_n 1, 1) := by decide +kernel
theorem dX1_findBest_2 : decode cX1_findBest 2 = .ok (.invokevirtual 63, 3) := by decide +kernel
theorem dX1_findBest_5 : decode cX1_findBest 5 = .ok (.istore_n 3, 1) := by decide +kernel
theorem dX1_findBest_6 : decode cX1_findBest 6 = .ok (.aload_n 0, 1) := by decide +kernel
theorem dX1_findBest_7 : decode cX1_findBest 7 = .ok (.iconst 0, 1) := by decide +kernel
theorem dX1_findBest_8 : decode cX1_findBest 8 = .ok (.putfield 53, 3) := by decide +kernel
theorem dX1_findBest_11 : decode cX1_findBest 11 = .ok (.aload_n 0, 1) := by decide +kernel
theorem dX1_findBest_12 : decode cX1_findBest 12 = .ok (.bipush (-21), 2) := by decide +kernel
theorem dX1_findBest_14 : decode cX1_findBest 14 = .ok (.putfield 60, 3) := by decide +kernel
theorem dX1_findBest_17 : decode cX1_findBest 17 = .ok (.iconst 0, 1) := by decide +kernel
theorem dX1_findBest_18 : decode cX1_findBest 18 = .ok (.istore 4, 2) := by decide +kernel
theorem dX1_findBest_20 : decode cX1_findBest 20 = .ok (.iload 4, 2) := by decide +kernel
theorem dX1_findBest_22 : decode cX1_findBest 22 = .ok (.aload_n 0, 1) := by decide +kernel
theorem dX1_findBest_23 : decode cX1_findBest 23 = .ok (.getfield 22, 3) := by decide +kernel
theorem dX1_findBest_26 : decode cX1_findBest 26 = .ok (.if_icmp .ge 82, 3) := by decide +kernel
theorem dX1_findBest_29 : decode cX1_findBest 29 = .ok (.iconst 1, 1) := by decide +kernel
theorem dX1_findBest_30 : decode cX1_findBest 30 = .ok (.iload 4, 2) := by decide +kernel
theorem dX1_findBest_32 : decode cX1_findBest 32 = .ok (.ishl, 1) := by decide +kernel
theorem dX1_findBest_33 : decode cX1_findBest 33 = .ok (.istore 5, 2) := by decide +kernel
theorem dX1_findBest_35 : decode cX1_findBest 35 = .ok (.iload_n 1, 1) := by decide +kernel
theorem dX1_findBest_36 : decode cX1_findBest 36 = .ok (.iload 5, 2) := by decide +kernel
theorem dX1_findBest_38 : decode cX1_findBest 38 = .ok (.iand, 1) := by decide +kernel
theorem dX1_findBest_39 : decode cX1_findBest 39 = .ok (.ifCond .eq 63, 3) := by decide +kernel
theorem dX1_findBest_42 : decode cX1_findBest 42 = .ok (.aload_n 0, 1) := by decide +kernel
theorem dX1_findBest_43 : decode cX1_findBest 43 = .ok (.getfield 18, 3) := by decide +kernel
theorem dX1_findBest_46 : decode cX1_findBest 46 = .ok (.iload_n 1, 1) := by decide +kernel
theorem dX1_findBest_47 : decode cX1_findBest 47 = .ok (.iload 5, 2) := by decide +kernel
theorem dX1_findBest_49 : decode cX1_findBest 49 = .ok (.ixor, 1) := by decide +kernel
theorem dX1_findBest_50 : decode cX1_findBest 50 = .ok (.baload, 1) := by decide +kernel
theorem dX1_findBest_51 : decode cX1_findBest 51 = .ok (.ineg, 1) := by decide +kernel
theorem dX1_findBest_52 : decode cX1_findBest 52 = .ok (.istore 6, 2) := by decide +kernel
theorem dX1_findBest_54 : decode cX1_findBest 54 = .ok (.iload_n 3, 1) := by decide +kernel
theorem dX1_findBest_55 : decode cX1_findBest 55 = .ok (.iload 5, 2) := by decide +kernel
theorem dX1_findBest_57 : decode cX1_findBest 57 = .ok (.iand, 1) := by decide +kernel
theorem dX1_findBest_58 : decode cX1_findBest 58 = .ok (.ifCond .eq 23, 3) := by decide +kernel
theorem dX1_findBest_61 : decode cX1_findBest 61 = .ok (.iload_n 2, 1) := by decide +kernel
theorem dX1_findBest_62 : decode cX1_findBest 62 = .ok (.ifCond .eq 16, 3) := by decide +kernel
theorem dX1_findBest_65 : decode cX1_findBest 65 = .ok (.aload_n 0, 1) := by decide +kernel
theorem dX1_findBest_66 : decode cX1_findBest 66 = .ok (.iload_n 1, 1) := by decide +kernel
theorem dX1_findBest_67 : decode cX1_findBest 67 = .ok (.iload 5, 2) := by decide +kernel
theorem dX1_findBest_69 : decode cX1_findBest 69 = .ok (.invokevirtual 66, 3) := by decide +kernel
theorem dX1_findBest_72 : decode cX1_findBest 72 = .ok (.iload 6, 2) := by decide +kernel
theorem dX1_findBest_74 : decode cX1_findBest 74 = .ok (.isub, 1) := by decide +kernel
theorem dX1_findBest_75 : decode cX1_findBest 75 = .ok (.goto 4, 3) := by decide +kernel
theorem dX1_findBest_78 : decode cX1_findBest 78 = .ok (.iconst 1, 1) := by decide +kernel
theorem dX1_findBest_79 : decode cX1_findBest 79 = .ok (.istore 6, 2) := by decide +kernel
theorem dX1_findBest_81 : decode cX1_findBest 81 = .ok (.iload 6, 2) := by decide +kernel
theorem dX1_findBest_83 : decode cX1_findBest 83 = .ok (.aload_n 0, 1) := by decide +kernel
theorem dX1_findBest_84 : decode cX1_findBest 84 = .ok (.getfield 60, 3) := by decide +kernel
theorem dX1_findBest_87 : decode cX1_findBest 87 = .ok (.if_icmp .le 15, 3) := by decide +kernel
theorem dX1_findBest_90 : decode cX1_findBest 90 = .ok (.aload_n 0, 1) := by decide +kernel
theorem dX1_findBest_91 : decode cX1_findBest 91 = .ok (.iload 6, 2) := by decide +kernel
theorem dX1_findBest_93 : decode cX1_findBest 93 = .ok (.putfield 60, 3) := by decide +kernel
theorem dX1_findBest_96 : decode cX1_findBest 96 = .ok (.aload_n 0, 1) := by decide +kernel
theorem dX1_findBest_97 : decode cX1_findBest 97 = .ok (.iload 4, 2) := by decide +kernel
theorem dX1_findBest_99 : decode cX1_findBest 99 = .ok (.putfield 53, 3) := by decide +kernel
theorem dX1_findBest_102 : decode cX1_findBest 102 = .ok (.iinc 4 1, 3) := by decide +kernel
theorem dX1_findBest_105 : decode cX1_findBest 105 = .ok (.goto (-85), 3) := by decide +kernel
theorem dX1_findBest_108 : decode cX1_findBest 108 = .ok (.return_, 1) := by decide +kernel
theorem dX1_closingPlaces_0 : decode cX1_closingPlaces 0 = .ok (.iconst 0, 1) := by decide +kernel
theorem dX1_closingPlaces_1 : decode cX1_closingPlaces 1 = .ok (.istore_n 2, 1) := by decide +kernel
theorem dX1_closingPlaces_2 : decode cX1_closingPlaces 2 = .ok (.iconst 0, 1) := by decide +kernel
theorem dX1_closingPlaces_3 : decode cX1_closingPlaces 3 = .ok (.istore_n 3, 1) := by decide +kernel
theorem dX1_closingPlaces_4 : decode cX1_closingPlaces 4 = .ok (.iload_n 3, 1) := by decide +kernel
theorem dX1_closingPlaces_5 : decode cX1_closingPlaces 5 = .ok (.aload_n 0, 1) := by decide +kernel
theorem dX1_closingPlaces_6 : decode cX1_closingPlaces 6 = .ok (.getfield 31, 3) := by decide +kernel
theorem dX1_closingPlaces_9 : decode cX1_closingPlaces 9 = .ok (.if_icmp .ge 34, 3) := by decide +kernel
theorem dX1_closingPlaces_12 : decode cX1_closingPlaces 12 = .ok (.aload_n 0, 1) := by decide +kernel
theorem dX1_closingPlaces_13 : decode cX1_closingPlaces 13 = .ok (.getfield 15, 3) := by decide +kernel
theorem dX1_closingPlaces_16 : decode cX1_closingPlaces 16 = .ok (.iload_n 3, 1) := by decide +kernel
theorem dX1_closingPlaces_17 : decode cX1_closingPlaces 17 = .ok (.iaload, 1) := by decide +kernel
theorem dX1_closingPlaces_18 : decode cX1_closingPlaces 18 = .ok (.iload_n 1, 1) := by decide +kernel
theorem dX1_closingPlaces_19 : decode cX1_closingPlaces 19 = .ok (.iand, 1) := by decide +kernel
theorem dX1_closingPlaces_20 : decode cX1_closingPlaces 20 = .ok (.istore 4, 2) := by decide +kernel
theorem dX1_closingPlaces_22 : decode cX1_closingPlaces 22 = .ok (.iload 4, 2) := by decide +kernel
theorem dX1_closingPlaces_24 : decode cX1_closingPlaces 24 = .ok (.iload 4, 2) := by decide +kernel
theorem dX1_closingPlaces_26 : decode cX1_closingPlaces 26 = .ok (.iconst 1, 1) := by decide +kernel
theorem dX1_closingPlaces_27 : decode cX1_closingPlaces 27 = .ok (.isub, 1) := by decide +kernel
theorem dX1_closingPlaces_28 : decode cX1_closingPlaces 28 = .ok (.iand, 1) := by decide +kernel
theorem dX1_closingPlaces_29 : decode cX1_closingPlaces 29 = .ok (.ifCond .ne 8, 3) := by decide +kernel
theorem dX1_closingPlaces_32 : decode cX1_closingPlaces 32 = .ok (.iload_n 2, 1) := by decide +kernel
theorem dX1_closingPlaces_33 : decode cX1_closingPlaces 33 = .ok (.iload 4, 2) := by decide +kernel
theorem dX1_closingPlaces_35 : decode cX1_closingPlaces 35 = .ok (.ior, 1) := by decide +kernel
theorem dX1_closingPlaces_36 : decode cX1_closingPlaces 36 = .ok (.istore_n 2, 1) := by decide +kernel
theorem dX1_closingPlaces_37 : decode cX1_closingPlaces 37 = .ok (.iinc 3 1, 3) := by decide +kernel
theorem dX1_closingPlaces_40 : decode cX1_closingPlaces 40 = .ok (.goto (-36), 3) := by decide +kernel
theorem dX1_closingPlaces_43 : decode cX1_closingPlaces 43 = .ok (.iload_n 2, 1) := by decide +kernel
theorem dX1_closingPlaces_44 : decode cX1_closingPlaces 44 = .ok (.ireturn, 1) := by decide +kernel
theorem dX1_madeBy_0 : decode cX1_madeBy 0 = .ok (.iconst 0, 1) := by decide +kernel
theorem dX1_madeBy_1 : decode cX1_madeBy 1 = .ok (.istore_n 3, 1) := by decide +kernel
theorem dX1_madeBy_2 : decode cX1_madeBy 2 = .ok (.iconst 0, 1) := by decide +kernel
theorem dX1_madeBy_3 : decode cX1_madeBy 3 = .ok (.istore 4, 2) := by decide +kernel
theorem dX1_madeBy_5 : decode cX1_madeBy 5 = .ok (.iload 4, 2) := by decide +kernel
theorem dX1_madeBy_7 : decode cX1_madeBy 7 = .ok (.aload_n 0, 1) := by decide +kernel
theorem dX1_madeBy_8 : decode cX1_madeBy 8 = .ok (.getfield 31, 3) := by decide +kernel
theorem dX1_madeBy_11 : decode cX1_madeBy 11 = .ok (.if_icmp .ge 25, 3) := by decide +kernel
theorem dX1_madeBy_14 : decode cX1_madeBy 14 = .ok (.aload_n 0, 1) := by decide +kernel
theorem dX1_madeBy_15 : decode cX1_madeBy 15 = .ok (.getfield 15, 3) := by decide +kernel
theorem dX1_madeBy_18 : decode cX1_madeBy 18 = .ok (.iload 4, 2) := by decide +kernel
theorem dX1_madeBy_20 : decode cX1_madeBy 20 = .ok (.iaload, 1) := by decide +kernel
theorem dX1_madeBy_21 : decode cX1_madeBy 21 = .ok (.iload_n 1, 1) := by decide +kernel
theorem dX1_madeBy_22 : decode cX1_madeBy 22 = .ok (.iand, 1) := by decide +kernel
theorem dX1_madeBy_23 : decode cX1_madeBy 23 = .ok (.iload_n 2, 1) := by decide +kernel
theorem dX1_madeBy_24 : decode cX1_madeBy 24 = .ok (.if_icmp .ne 6, 3) := by decide +kernel
theorem dX1_madeBy_27 : decode cX1_madeBy 27 = .ok (.iinc 3 1, 3) := by decide +kernel
theorem dX1_madeBy_30 : decode cX1_madeBy 30 = .ok (.iinc 4 1, 3) := by decide +kernel
theorem dX1_madeBy_33 : decode cX1_madeBy 33 = .ok (.goto (-28), 3) := by decide +kernel
theorem dX1_madeBy_36 : decode cX1_madeBy 36 = .ok (.iload_n 3, 1) := by decide +kernel
theorem dX1_madeBy_37 : decode cX1_madeBy 37 = .ok (.ireturn, 1) := by decide +kernel
theorem dX2_init_0 : decode cX2_init 0 = .ok (.aload_n 0, 1) := by decide +kernel
theorem dX2_init_1 : decode cX2_init 1 = .ok (.invokespecial 3, 3) := by decide +kernel
theorem dX2_init_4 : decode cX2_init 4 = .ok (.aload_n 0, 1) := by decide +kernel
theorem dX2_init_5 : decode cX2_init 5 = .ok (.bipush 20, 2) := by decide +kernel
theorem dX2_init_7 : decode cX2_init 7 = .ok (.newarray .int, 2) := by decide +kernel
theorem dX2_init_9 : decode cX2_init 9 = .ok (.putfield 9, 3) := by decide +kernel
theorem dX2_init_12 : decode cX2_init 12 = .ok (.aload_n 0, 1) := by decide +kernel
theorem dX2_init_13 : decode cX2_init 13 = .ok (.bipush 20, 2) := by decide +kernel
theorem dX2_init_15 : decode cX2_init 15 = .ok (.newarray .int, 2) := by decide +kernel
theorem dX2_init_17 : decode cX2_init 17 = .ok (.putfield 15, 3) := by decide +kernel
theorem dX2_init_20 : decode cX2_init 20 = .ok (.aload_n 0, 1) := by decide +kernel
theorem dX2_init_21 : decode cX2_init 21 = .ok (.bipush 20, 2) := by decide +kernel
theorem dX2_init_23 : decode cX2_init 23 = .ok (.newarray .int, 2) := by decide +kernel
theorem dX2_init_25 : decode cX2_init 25 = .ok (.putfield 18, 3) := by decide +kernel
theorem dX2_init_28 : decode cX2_init 28 = .ok (.aload_n 0, 1) := by decide +kernel
theorem dX2_init_29 : decode cX2_init 29 = .ok (.bipush 20, 2) := by decide +kernel
theorem dX2_init_31 : decode cX2_init 31 = .ok (.newarray .int, 2) := by decide +kernel
theorem dX2_init_33 : decode cX2_init 33 = .ok (.putfield 21, 3) := by decide +kernel
theorem dX2_init_36 : decode cX2_init 36 = .ok (.aload_n 0, 1) := by decide +kernel
theorem dX2_init_37 : decode cX2_init 37 = .ok (.iconst 4, 1) := by decide +kernel
theorem dX2_init_38 : decode cX2_init 38 = .ok (.newarray .int, 2) := by decide +kernel
theorem dX2_init_40 : decode cX2_init 40 = .ok (.putfield 24, 3) := by decide +kernel
theorem dX2_init_43 : decode cX2_init 43 = .ok (.aload_n 0, 1) := by decide +kernel
theorem dX2_init_44 : decode cX2_init 44 = .ok (.bipush 31, 2) := by decide +kernel
theorem dX2_init_46 : decode cX2_init 46 = .ok (.newarray .int, 2) := by decide +kernel
theorem dX2_init_48 : decode cX2_init 48 = .ok (.putfield 27, 3) := by decide +kernel
theorem dX2_init_51 : decode cX2_init 51 = .ok (.aload_n 0, 1) := by decide +kernel
theorem dX2_init_52 : decode cX2_init 52 = .ok (.bipush 31, 2) := by decide +kernel
theorem dX2_init_54 : decode cX2_init 54 = .ok (.newarray .int, 2) := by decide +kernel
theorem dX2_init_56 : decode cX2_init 56 = .ok (.putfield 30, 3) := by decide +kernel
theorem dX2_init_59 : decode cX2_init 59 = .ok (.aload_n 0, 1) := by decide +kernel
theorem dX2_init_60 : decode cX2_init 60 = .ok (.bipush 31, 2) := by decide +kernel
theorem dX2_init_62 : decode cX2_init 62 = .ok (.newarray .int, 2) := by decide +kernel
theorem dX2_init_64 : decode cX2_init 64 = .ok (.putfield 33, 3) := by decide +kernel
theorem dX2_init_67 : decode cX2_init 67 = .ok (.return_, 1) := by decide +kernel
theorem dX2_form_0 : decode cX2_form 0 = .ok (.aload_n 0, 1) := by decide +kernel
theorem dX2_form_1 : decode cX2_form 1 = .ok (.iload_n 1, 1) := by decide +kernel
theorem dX2_form_2 : decode cX2_form 2 = .ok (.putfield 36, 3) := by decide +kernel
theorem dX2_form_5 : decode cX2_form 5 = .ok (.aload_n 0, 1) := by decide +kernel
theorem dX2_form_6 : decode cX2_form 6 = .ok (.iload_n 2, 1) := by decide +kernel
theorem dX2_form_7 : decode cX2_form 7 = .ok (.putfield 40, 3) := by decide +kernel
theorem dX2_form_10 : decode cX2_form 10 = .ok (.aload_n 0, 1) := by decide +kernel
theorem dX2_form_11 : decode cX2_form 11 = .ok (.aload_n 0, 1) := by decide +kernel
theorem dX2_form_12 : decode cX2_form 12 = .ok (.getfield 36, 3) := by decide +kernel
theorem dX2_form_15 : decode cX2_form 15 = .ok (.aload_n 0, 1) := by decide +kernel
theorem dX2_form_16 : decode cX2_form 16 = .ok (.getfield 40, 3) := by decide +kernel
theorem dX2_form_19 : decode cX2_form 19 = .ok (.invokestatic 43, 3) := by decide +kernel
theorem dX2_form_22 : decode cX2_form 22 = .ok (.putfield 47, 3) := by decide +kernel
theorem dX2_form_25 : decode cX2_form 25 = .ok (.aload_n 0, 1) := by decide +kernel
theorem dX2_form_26 : decode cX2_form 26 = .ok (.iconst 0, 1) := by decide +kernel
theorem dX2_form_27 : decode cX2_form 27 = .ok (.putfield 50, 3) := by decide +kernel
theorem dX2_form_30 : decode cX2_form 30 = .ok (.iconst 1, 1) := by decide +kernel
theorem dX2_form_31 : decode cX2_form 31 = .ok (.istore_n 3, 1) := by decide +kernel
theorem dX2_form_32 : decode cX2_form 32 = .ok (.iload_n 3, 1) := by decide +kernel
theorem dX2_form_33 : decode cX2_form 33 = .ok (.iconst 3, 1) := by decide +kernel
theorem dX2_form_34 : decode cX2_form 34 = .ok (.if_icmp .gt 21, 3) := by decide +kernel
theorem dX2_form_37 : decode cX2_form 37 = .ok (.aload_n 0, 1) := by decide +kernel
theorem dX2_form_38 : decode cX2_form 38 = .ok (.getfield 24, 3) := by decide +kernel
theorem dX2_form_41 : decode cX2_form 41 = .ok (.iload_n 3, 1) := by decide +kernel
theorem dX2_form_42 : decode cX2_form 42 = .ok (.iconst 0, 1) := by decide +kernel
theorem dX2_form_43 : decode cX2_form 43 = .ok (.iastore, 1) := by decide +kernel
theorem dX2_form_44 : decode cX2_form 44 = .ok (.aload_n 0, 1) := by decide +kernel
theorem dX2_form_45 : decode cX2_form 45 = .ok (.iload_n 3, 1) := by decide +kernel
theorem dX2_form_46 : decode cX2_form 46 = .ok (.invokevirtual 53, 3) := by decide +kernel
theorem dX2_form_49 : decode cX2_form 49 = .ok (.iinc 3 1, 3) := by decide +kernel
theorem dX2_form_52 : decode cX2_form 52 = .ok (.goto (-20), 3) := by decide +kernel
theorem dX2_form_55 : decode cX2_form 55 = .ok (.iconst 0, 1) := by decide +kernel
theorem dX2_form_56 : decode cX2_form 56 = .ok (.istore_n 3, 1) := by decide +kernel
theorem dX2_form_57 : decode cX2_form 57 = .ok (.iload_n 3, 1) := by decide +kernel
theorem dX2_form_58 : decode cX2_form 58 = .ok (.aload_n 0, 1) := by decide +kernel
theorem dX2_form_59 : decode cX2_form 59 = .ok (.getfield 40, 3) := by decide +kernel
theorem dX2_form_62 : decode cX2_form 62 = .ok (.if_icmp .gt 34, 3) := by decide +kernel
theorem dX2_form_65 : decode cX2_form 65 = .ok (.iconst 0, 1) := by decide +kernel
theorem dX2_form_66 : decode cX2_form 66 = .ok (.istore 4, 2) := by decide +kernel
theorem dX2_form_68 : decode cX2_form 68 = .ok (.iload 4, 2) := by decide +kernel
theorem dX2_form_70 : decode cX2_form 70 = .ok (.aload_n 0, 1) := by decide +kernel
theorem dX2_form_71 : decode cX2_form 71 = .ok (.getfield 36, 3) := by decide +kernel
theorem dX2_form_74 : decode cX2_form 74 = .ok (.if_icmp .gt 16, 3) := by decide +kernel
theorem dX2_form_77 : decode cX2_form 77 = .ok (.aload_n 0, 1) := by decide +kernel
theorem dX2_form_78 : decode cX2_form 78 = .ok (.iload_n 3, 1) := by decide +kernel
theorem dX2_form_79 : decode cX2_form 79 = .ok (.iload 4, 2) := by decide +kernel
theorem dX2_form_81 : decode cX2_form 81 = .ok (.invokevirtual 57, 3) := by decide +kernel
theorem dX2_form_84 : decode cX2_form 84 = .ok (.iinc 4 1, 3) := by decide +kernel
theorem dX2_form_87 : decode cX2_form 87 = .ok (.goto (-19), 3) := by decide +kernel
theorem dX2_form_90 : decode cX2_form 90 = .ok (.iinc 3 1, 3) := by decide +kernel
theorem dX2_form_93 : decode cX2_form 93 = .ok (.goto (-36), 3) := by decide +kernel
theorem dX2_form_96 : decode cX2_form 96 = .ok (.return_, 1) := by decide +kernel
theorem dX2_placesOf_0 : decode cX2_placesOf 0 = .ok (.iload_n 0, 1) := by decide +kernel
theorem dX2_placesOf_1 : decode cX2_placesOf 1 = .ok (.iload_n 1, 1) := by decide +kernel
theorem dX2_placesOf_2 : decode cX2_placesOf 2 = .ok (.iconst 1, 1) := by decide +kernel
theorem dX2_placesOf_3 : decode cX2_placesOf 3 = .ok (.iadd, 1) := by decide +kernel
theorem dX2_placesOf_4 : decode cX2_placesOf 4 = .ok (.imul, 1) := by decide +kernel
theorem dX2_placesOf_5 : decode cX2_placesOf 5 = .ok (.iload_n 1, 1) := by decide +kernel
theorem dX2_placesOf_6 : decode cX2_placesOf 6 = .ok (.iload_n 0, 1) := by decide +kernel
theorem dX2_placesOf_7 : decode cX2_placesOf 7 = .ok (.iconst 1, 1) := by decide +kernel
theorem dX2_placesOf_8 : decode cX2_placesOf 8 = .ok (.iadd, 1) := by decide +kernel
theorem dX2_placesOf_9 : decode cX2_placesOf 9 = .ok (.imul, 1) := by decide +kernel
theorem dX2_placesOf_10 : decode cX2_placesOf 10 = .ok (.iadd, 1) := by decide +kernel
theorem dX2_placesOf_11 : decode cX2_placesOf 11 = .ok (.ireturn, 1) := by decide +kernel
theorem dX2_all_0 : decode cX2_all 0 = .ok (.aload_n 0, 1) := by decide +kernel
theorem dX2_all_1 : decode cX2_all 1 = .ok (.getfield 47, 3) := by decide +kernel
theorem dX2_all_4 : decode cX2_all 4 = .ok (.invokestatic 61, 3) := by decide +kernel
theorem dX2_all_7 : decode cX2_all 7 = .ok (.ireturn, 1) := by decide +kernel
theorem dX2_setOfAll_0 : decode cX2_setOfAll 0 = .ok (.iconst 1, 1) := by decide +kernel
theorem dX2_setOfAll_1 : decode cX2_setOfAll 1 = .ok (.iload_n 0, 1) := by decide +kernel
theorem dX2_setOfAll_2 : decode cX2_setOfAll 2 = .ok (.ishl, 1) := by decide +kernel
theorem dX2_setOfAll_3 : decode cX2_setOfAll 3 = .ok (.iconst 1, 1) := by decide +kernel
theorem dX2_setOfAll_4 : decode cX2_setOfAll 4 = .ok (.isub, 1) := by decide +kernel
theorem dX2_setOfAll_5 : decode cX2_setOfAll 5 = .ok (.ireturn, 1) := by decide +kernel
theorem dX2_across_0 : decode cX2_across 0 = .ok (.iload_n 1, 1) := by decide +kernel
theorem dX2_across_1 : decode cX2_across 1 = .ok (.aload_n 0, 1) := by decide +kernel
theorem dX2_across_2 : decode cX2_across 2 = .ok (.getfield 36, 3) := by decide +kernel
theorem dX2_across_5 : decode cX2_across 5 = .ok (.imul, 1) := by decide +kernel
theorem dX2_across_6 : decode cX2_across 6 = .ok (.iload_n 2, 1) := by decide +kernel
theorem dX2_across_7 : decode cX2_across 7 = .ok (.iadd, 1) := by decide +kernel
theorem dX2_across_8 : decode cX2_across 8 = .ok (.ireturn, 1) := by decide +kernel
theorem dX2_standing_0 : decode cX2_standing 0 = .ok (.aload_n 0, 1) := by decide +kernel
theorem dX2_standing_1 : decode cX2_standing 1 = .ok (.getfield 36, 3) := by decide +kernel
theorem dX2_standing_4 : decode cX2_standing 4 = .ok (.aload_n 0, 1) := by decide +kernel
theorem dX2_standing_5 : decode cX2_standing 5 = .ok (.getfield 40, 3) := by decide +kernel
theorem dX2_standing_8 : decode cX2_standing 8 = .ok (.iconst 1, 1) := by decide +kernel
theorem dX2_standing_9 : decode cX2_standing 9 = .ok (.iadd, 1) := by decide +kernel
theorem dX2_standing_10 : decode cX2_standing 10 = .ok (.imul, 1) := by decide +kernel
theorem dX2_standing_11 : decode cX2_standing 11 = .ok (.iload_n 1, 1) := by decide +kernel
theorem dX2_standing_12 : decode cX2_standing 12 = .ok (.aload_n 0, 1) := by decide +kernel
theorem dX2_standing_13 : decode cX2_standing 13 = .ok (.getfield 36, 3) := by decide +kernel
theorem dX2_standing_16 : decode cX2_standing 16 = .ok (.iconst 1, 1) := by decide +kernel
theorem dX2_standing_17 : decode cX2_standing 17 = .ok (.iadd, 1) := by decide +kernel
theorem dX2_standing_18 : decode cX2_standing 18 = .ok (.imul, 1) := by decide +kernel
theorem dX2_standing_19 : decode cX2_standing 19 = .ok (.iadd, 1) := by decide +kernel
theorem dX2_standing_20 : decode cX2_standing 20 = .ok (.iload_n 2, 1) := by decide +kernel
theorem dX2_standing_21 : decode cX2_standing 21 = .ok (.iadd, 1) := by decide +kernel
theorem dX2_standing_22 : decode cX2_standing 22 = .ok (.ireturn, 1) := by decide +kernel
theorem dX2_addSquares_0 : decode cX2_addSquares 0 = .ok (.iconst 0, 1) := by decide +kernel
theorem dX2_addSquares_1 : decode cX2_addSquares 1 = .ok (.istore_n 2, 1) := by decide +kernel
theorem dX2_addSquares_2 : decode cX2_addSquares 2 = .ok (.iload_n 2, 1) := by decide +kernel
theorem dX2_addSquares_3 : decode cX2_addSquares 3 = .ok (.iload_n 1, 1) := by decide +kernel
theorem dX2_addSquares_4 : decode cX2_addSquares 4 = .ok (.iadd, 1) := by decide +kernel
theorem dX2_addSquares_5 : decode cX2_addSquares 5 = .ok (.aload_n 0, 1) := by decide +kernel
theorem dX2_addSquares_6 : decode cX2_addSquares 6 = .ok (.getfield 40, 3) := by decide +kernel
theorem dX2_addSquares_9 : decode cX2_addSquares 9 = .ok (.if_icmp .gt 107, 3) := by decide +kernel
theorem dX2_addSquares_12 : decode cX2_addSquares 12 = .ok (.iconst 0, 1) := by decide +kernel
theorem dX2_addSquares_13 : decode cX2_addSquares 13 = .ok (.istore_n 3, 1) := by decide +kernel
theorem dX2_addSquares_14 : decode cX2_addSquares 14 = .ok (.iload_n 3, 1) := by decide +kernel
theorem dX2_addSquares_15 : decode cX2_addSquares 15 = .ok (.iload_n 1, 1) := by decide +kernel
theorem dX2_addSquares_16 : decode cX2_addSquares 16 = .ok (.iadd, 1) := by decide +kernel
theorem dX2_addSquares_17 : decode cX2_addSquares 17 = .ok (.aload_n 0, 1) := by decide +kernel
theorem dX2_addSquares_18 : decode cX2_addSquares 18 = .ok (.getfield 36, 3) := by decide +kernel
theorem dX2_addSquares_21 : decode cX2_addSquares 21 = .ok (.if_icmp .gt 89, 3) := by decide +kernel
theorem dX2_addSquares_24 : decode cX2_addSquares 24 = .ok (.aload_n 0, 1) := by decide +kernel
theorem dX2_addSquares_25 : decode cX2_addSquares 25 = .ok (.getfield 50, 3) := by decide +kernel
theorem dX2_addSquares_28 : decode cX2_addSquares 28 = .ok (.bipush 20, 2) := by decide +kernel
theorem dX2_addSquares_30 : decode cX2_addSquares 30 = .ok (.if_icmp .ge 80, 3) := by decide +kernel
theorem dX2_addSquares_33 : decode cX2_addSquares 33 = .ok (.aload_n 0, 1) := by decide +kernel
theorem dX2_addSquares_34 : decode cX2_addSquares 34 = .ok (.getfield 9, 3) := by decide +kernel
theorem dX2_addSquares_37 : decode cX2_addSquares 37 = .ok (.aload_n 0, 1) := by decide +kernel
theorem dX2_addSquares_38 : decode cX2_addSquares 38 = .ok (.getfield 50, 3) := by decide +kernel
theorem dX2_addSquares_41 : decode cX2_addSquares 41 = .ok (.iload_n 1, 1) := by decide +kernel
theorem dX2_addSquares_42 : decode cX2_addSquares 42 = .ok (.iastore, 1) := by decide +kernel
theorem dX2_addSquares_43 : decode cX2_addSquares 43 = .ok (.aload_n 0, 1) := by decide +kernel
theorem dX2_addSquares_44 : decode cX2_addSquares 44 = .ok (.getfield 15, 3) := by decide +kernel
theorem dX2_addSquares_47 : decode cX2_addSquares 47 = .ok (.aload_n 0, 1) := by decide +kernel
theorem dX2_addSquares_48 : decode cX2_addSquares 48 = .ok (.getfield 50, 3) := by decide +kernel
theorem dX2_addSquares_51 : decode cX2_addSquares 51 = .ok (.iload_n 2, 1) := by decide +kernel
theorem dX2_addSquares_52 : decode cX2_addSquares 52 = .ok (.iastore, 1) := by decide +kernel
theorem dX2_addSquares_53 : decode cX2_addSquares 53 = .ok (.aload_n 0, 1) := by decide +kernel
theorem dX2_addSquares_54 : decode cX2_addSquares 54 = .ok (.getfield 18, 3) := by decide +kernel
theorem dX2_addSquares_57 : decode cX2_addSquares 57 = .ok (.aload_n 0, 1) := by decide +kernel
theorem dX2_addSquares_58 : decode cX2_addSquares 58 = .ok (.getfield 50, 3) := by decide +kernel
theorem dX2_addSquares_61 : decode cX2_addSquares 61 = .ok (.iload_n 3, 1) := by decide +kernel
theorem dX2_addSquares_62 : decode cX2_addSquares 62 = .ok (.iastore, 1) := by decide +kernel
theorem dX2_addSquares_63 : decode cX2_addSquares 63 = .ok (.aload_n 0, 1) := by decide +kernel
theorem dX2_addSquares_64 : decode cX2_addSquares 64 = .ok (.getfield 21, 3) := by decide +kernel
theorem dX2_addSquares_67 : decode cX2_addSquares 67 = .ok (.aload_n 0, 1) := by decide +kernel
theorem dX2_addSquares_68 : decode cX2_addSquares 68 = .ok (.getfield 50, 3) := by decide +kernel
theorem dX2_addSquares_71 : decode cX2_addSquares 71 = .ok (.aload_n 0, 1) := by decide +kernel
theorem dX2_addSquares_72 : decode cX2_addSquares 72 = .ok (.iload_n 1, 1) := by decide +kernel
theorem dX2_addSquares_73 : decode cX2_addSquares 73 = .ok (.iload_n 2, 1) := by decide +kernel
theorem dX2_addSquares_74 : decode cX2_addSquares 74 = .ok (.iload_n 3, 1) := by decide +kernel
theorem dX2_addSquares_75 : decode cX2_addSquares 75 = .ok (.invokevirtual 65, 3) := by decide +kernel
theorem dX2_addSquares_78 : decode cX2_addSquares 78 = .ok (.iastore, 1) := by decide +kernel
theorem dX2_addSquares_79 : decode cX2_addSquares 79 = .ok (.aload_n 0, 1) := by decide +kernel
theorem dX2_addSquares_80 : decode cX2_addSquares 80 = .ok (.getfield 24, 3) := by decide +kernel
theorem dX2_addSquares_83 : decode cX2_addSquares 83 = .ok (.iload_n 1, 1) := by decide +kernel
theorem dX2_addSquares_84 : decode cX2_addSquares 84 = .ok (.dup2, 1) := by decide +kernel
theorem dX2_addSquares_85 : decode cX2_addSquares 85 = .ok (.iaload, 1) := by decide +kernel
theorem dX2_addSquares_86 : decode cX2_addSquares 86 = .ok (.iconst 1, 1) := by decide +kernel
theorem dX2_addSquares_87 : decode cX2_addSquares 87 = .ok (.aload_n 0, 1) := by decide +kernel
theorem dX2_addSquares_88 : decode cX2_addSquares 88 = .ok (.getfield 50, 3) := by decide +kernel
theorem dX2_addSquares_91 : decode cX2_addSquares 91 = .ok (.ishl, 1) := by decide +kernel
theorem dX2_addSquares_92 : decode cX2_addSquares 92 = .ok (.ior, 1) := by decide +kernel
theorem dX2_addSquares_93 : decode cX2_addSquares 93 = .ok (.iastore, 1) := by decide +kernel
theorem dX2_addSquares_94 : decode cX2_addSquares 94 = .ok (.aload_n 0, 1) := by decide +kernel
theorem dX2_addSquares_95 : decode cX2_addSquares 95 = .ok (.dup, 1) := by decide +kernel
theorem dX2_addSquares_96 : decode cX2_addSquares 96 = .ok (.getfield 50, 3) := by decide +kernel
theorem dX2_addSquares_99 : decode cX2_addSquares 99 = .ok (.iconst 1, 1) := by decide +kernel
theorem dX2_addSquares_100 : decode cX2_addSquares 100 = .ok (.iadd, 1) := by decide +kernel
theorem dX2_addSquares_101 : decode cX2_addSquares 101 = .ok (.putfield 50, 3) := by decide +kernel
theorem dX2_addSquares_104 : decode cX2_addSquares 104 = .ok (.iinc 3 1, 3) := by decide +kernel
theorem dX2_addSquares_107 : decode cX2_addSquares 107 = .ok (.goto (-93), 3) := by decide +kernel
theorem dX2_addSquares_110 : decode cX2_addSquares 110 = .ok (.iinc 2 1, 3) := by decide +kernel
theorem dX2_addSquares_113 : decode cX2_addSquares 113 = .ok (.goto (-111), 3) := by decide +kernel
theorem dX2_addSquares_116 : decode cX2_addSquares 116 = .ok (.return_, 1) := by decide +kernel
theorem dX2_rimOf_0 : decode cX2_rimOf 0 = .ok (.iconst 0, 1) := by decide +kernel
theorem dX2_rimOf_1 : decode cX2_rimOf 1 = .ok (.istore 4, 2) := by decide +kernel
theorem dX2_rimOf_3 : decode cX2_rimOf 3 = .ok (.iconst 0, 1) := by decide +kernel
theorem dX2_rimOf_4 : decode cX2_rimOf 4 = .ok (.istore 5, 2) := by decide +kernel
theorem dX2_rimOf_6 : decode cX2_rimOf 6 = .ok (.iload 5, 2) := by decide +kernel
theorem dX2_rimOf_8 : decode cX2_rimOf 8 = .ok (.iload_n 1, 1) := by decide +kernel
theorem dX2_rimOf_9 : decode cX2_rimOf 9 = .ok (.if_icmp .ge 77, 3) := by decide +kernel
theorem dX2_rimOf_12 : decode cX2_rimOf 12 = .ok (.iload 4, 2) := by decide +kernel
theorem dX2_rimOf_14 : decode cX2_rimOf 14 = .ok (.iconst 1, 1) := by decide +kernel
theorem dX2_rimOf_15 : decode cX2_rimOf 15 = .ok (.aload_n 0, 1) := by decide +kernel
theorem dX2_rimOf_16 : decode cX2_rimOf 16 = .ok (.iload_n 2, 1) := by decide +kernel
theorem dX2_rimOf_17 : decode cX2_rimOf 17 = .ok (.iload_n 3, 1) := by decide +kernel
theorem dX2_rimOf_18 : decode cX2_rimOf 18 = .ok (.iload 5, 2) := by decide +kernel
theorem dX2_rimOf_20 : decode cX2_rimOf 20 = .ok (.iadd, 1) := by decide +kernel
theorem dX2_rimOf_21 : decode cX2_rimOf 21 = .ok (.invokevirtual 69, 3) := by decide +kernel
theorem dX2_rimOf_24 : decode cX2_rimOf 24 = .ok (.ishl, 1) := by decide +kernel
theorem dX2_rimOf_25 : decode cX2_rimOf 25 = .ok (.ior, 1) := by decide +kernel
theorem dX2_rimOf_26 : decode cX2_rimOf 26 = .ok (.istore 4, 2) := by decide +kernel
theorem dX2_rimOf_28 : decode cX2_rimOf 28 = .ok (.iload 4, 2) := by decide +kernel
theorem dX2_rimOf_30 : decode cX2_rimOf 30 = .ok (.iconst 1, 1) := by decide +kernel
theorem dX2_rimOf_31 : decode cX2_rimOf 31 = .ok (.aload_n 0, 1) := by decide +kernel
theorem dX2_rimOf_32 : decode cX2_rimOf 32 = .ok (.iload_n 2, 1) := by decide +kernel
theorem dX2_rimOf_33 : decode cX2_rimOf 33 = .ok (.iload_n 1, 1) := by decide +kernel
theorem dX2_rimOf_34 : decode cX2_rimOf 34 = .ok (.iadd, 1) := by decide +kernel
theorem dX2_rimOf_35 : decode cX2_rimOf 35 = .ok (.iload_n 3, 1) := by decide +kernel
theorem dX2_rimOf_36 : decode cX2_rimOf 36 = .ok (.iload 5, 2) := by decide +kernel
theorem dX2_rimOf_38 : decode cX2_rimOf 38 = .ok (.iadd, 1) := by decide +kernel
theorem dX2_rimOf_39 : decode cX2_rimOf 39 = .ok (.invokevirtual 69, 3) := by decide +kernel
theorem dX2_rimOf_42 : decode cX2_rimOf 42 = .ok (.ishl, 1) := by decide +kernel
theorem dX2_rimOf_43 : decode cX2_rimOf 43 = .ok (.ior, 1) := by decide +kernel
theorem dX2_rimOf_44 : decode cX2_rimOf 44 = .ok (.istore 4, 2) := by decide +kernel
theorem dX2_rimOf_46 : decode cX2_rimOf 46 = .ok (.iload 4, 2) := by decide +kernel
theorem dX2_rimOf_48 : decode cX2_rimOf 48 = .ok (.iconst 1, 1) := by decide +kernel
theorem dX2_rimOf_49 : decode cX2_rimOf 49 = .ok (.aload_n 0, 1) := by decide +kernel
theorem dX2_rimOf_50 : decode cX2_rimOf 50 = .ok (.iload_n 2, 1) := by decide +kernel
theorem dX2_rimOf_51 : decode cX2_rimOf 51 = .ok (.iload 5, 2) := by decide +kernel
theorem dX2_rimOf_53 : decode cX2_rimOf 53 = .ok (.iadd, 1) := by decide +kernel
theorem dX2_rimOf_54 : decode cX2_rimOf 54 = .ok (.iload_n 3, 1) := by decide +kernel
theorem dX2_rimOf_55 : decode cX2_rimOf 55 = .ok (.invokevirtual 72, 3) := by decide +kernel
theorem dX2_rimOf_58 : decode cX2_rimOf 58 = .ok (.ishl, 1) := by decide +kernel
theorem dX2_rimOf_59 : decode cX2_rimOf 59 = .ok (.ior, 1) := by decide +kernel
theorem dX2_rimOf_60 : decode cX2_rimOf 60 = .ok (.istore 4, 2) := by decide +kernel
theorem dX2_rimOf_62 : decode cX2_rimOf 62 = .ok (.iload 4, 2) := by decide +kernel
theorem dX2_rimOf_64 : decode cX2_rimOf 64 = .ok (.iconst 1, 1) := by decide +kernel
theorem dX2_rimOf_65 : decode cX2_rimOf 65 = .ok (.aload_n 0, 1) := by decide +kernel
theorem dX2_rimOf_66 : decode cX2_rimOf 66 = .ok (.iload_n 2, 1) := by decide +kernel
theorem dX2_rimOf_67 : decode cX2_rimOf 67 = .ok (.iload 5, 2) := by decide +kernel
theorem dX2_rimOf_69 : decode cX2_rimOf 69 = .ok (.iadd, 1) := by decide +kernel
theorem dX2_rimOf_70 : decode cX2_rimOf 70 = .ok (.iload_n 3, 1) := by decide +kernel
theorem dX2_rimOf_71 : decode cX2_rimOf 71 = .ok (.iload_n 1, 1) := by decide +kernel
theorem dX2_rimOf_72 : decode cX2_rimOf 72 = .ok (.iadd, 1) := by decide +kernel
theorem dX2_rimOf_73 : decode cX2_rimOf 73 = .ok (.invokevirtual 72, 3) := by decide +kernel
theorem dX2_rimOf_76 : decode cX2_rimOf 76 = .ok (.ishl, 1) := by decide +kernel
theorem dX2_rimOf_77 : decode cX2_rimOf 77 = .ok (.ior, 1) := by decide +kernel
theorem dX2_rimOf_78 : decode cX2_rimOf 78 = .ok (.istore 4, 2) := by decide +kernel
theorem dX2_rimOf_80 : decode cX2_rimOf 80 = .ok (.iinc 5 1, 3) := by decide +kernel
theorem dX2_rimOf_83 : decode cX2_rimOf 83 = .ok (.goto (-77), 3) := by decide +kernel
theorem dX2_rimOf_86 : decode cX2_rimOf 86 = .ok (.iload 4, 2) := by decide +kernel
theorem dX2_rimOf_88 : decode cX2_rimOf 88 = .ok (.ireturn, 1) := by decide +kernel
theorem dX2_turnPlaces_0 : decode cX2_turnPlaces 0 = .ok (.aload_n 0, 1) := by decide +kernel
theorem dX2_turnPlaces_1 : decode cX2_turnPlaces 1 = .ok (.getfield 36, 3) := by decide +kernel
theorem dX2_turnPlaces_4 : decode cX2_turnPlaces 4 = .ok (.aload_n 0, 1) := by decide +kernel
theorem dX2_turnPlaces_5 : decode cX2_turnPlaces 5 = .ok (.getfield 40, 3) := by decide +kernel
theorem dX2_turnPlaces_8 : decode cX2_turnPlaces 8 = .ok (.if_icmp .ne 7, 3) := by decide +kernel
theorem dX2_turnPlaces_11 : decode cX2_turnPlaces 11 = .ok (.iconst 1, 1) := by decide +kernel
theorem dX2_turnPlaces_12 : decode cX2_turnPlaces 12 = .ok (.goto 4, 3) := by decide +kernel
theorem dX2_turnPlaces_15 : decode cX2_turnPlaces 15 = .ok (.iconst 0, 1) := by decide +kernel
theorem dX2_turnPlaces_16 : decode cX2_turnPlaces 16 = .ok (.istore_n 3, 1) := by decide +kernel
theorem dX2_turnPlaces_17 : decode cX2_turnPlaces 17 = .ok (.iload_n 2, 1) := by decide +kernel
theorem dX2_turnPlaces_18 : decode cX2_turnPlaces 18 = .ok (.aload_n 0, 1) := by decide +kernel
theorem dX2_turnPlaces_19 : decode cX2_turnPlaces 19 = .ok (.getfield 36, 3) := by decide +kernel
theorem dX2_turnPlaces_22 : decode cX2_turnPlaces 22 = .ok (.if_icmp .ge 71, 3) := by decide +kernel
theorem dX2_turnPlaces_25 : decode cX2_turnPlaces 25 = .ok (.aload_n 0, 1) := by decide +kernel
theorem dX2_turnPlaces_26 : decode cX2_turnPlaces 26 = .ok (.iload_n 1, 1) := by decide +kernel
theorem dX2_turnPlaces_27 : decode cX2_turnPlaces 27 = .ok (.iload_n 2, 1) := by decide +kernel
theorem dX2_turnPlaces_28 : decode cX2_turnPlaces 28 = .ok (.invokevirtual 69, 3) := by decide +kernel
theorem dX2_turnPlaces_31 : decode cX2_turnPlaces 31 = .ok (.istore 4, 2) := by decide +kernel
theorem dX2_turnPlaces_33 : decode cX2_turnPlaces 33 = .ok (.aload_n 0, 1) := by decide +kernel
theorem dX2_turnPlaces_34 : decode cX2_turnPlaces 34 = .ok (.getfield 27, 3) := by decide +kernel
theorem dX2_turnPlaces_37 : decode cX2_turnPlaces 37 = .ok (.iload 4, 2) := by decide +kernel
theorem dX2_turnPlaces_39 : decode cX2_turnPlaces 39 = .ok (.aload_n 0, 1) := by decide +kernel
theorem dX2_turnPlaces_40 : decode cX2_turnPlaces 40 = .ok (.iload_n 1, 1) := by decide +kernel
theorem dX2_turnPlaces_41 : decode cX2_turnPlaces 41 = .ok (.aload_n 0, 1) := by decide +kernel
theorem dX2_turnPlaces_42 : decode cX2_turnPlaces 42 = .ok (.getfield 36, 3) := by decide +kernel
theorem dX2_turnPlaces_45 : decode cX2_turnPlaces 45 = .ok (.iconst 1, 1) := by decide +kernel
theorem dX2_turnPlaces_46 : decode cX2_turnPlaces 46 = .ok (.isub, 1) := by decide +kernel
theorem dX2_turnPlaces_47 : decode cX2_turnPlaces 47 = .ok (.iload_n 2, 1) := by decide +kernel
theorem dX2_turnPlaces_48 : decode cX2_turnPlaces 48 = .ok (.isub, 1) := by decide +kernel
theorem dX2_turnPlaces_49 : decode cX2_turnPlaces 49 = .ok (.invokevirtual 69, 3) := by decide +kernel
theorem dX2_turnPlaces_52 : decode cX2_turnPlaces 52 = .ok (.iastore, 1) := by decide +kernel
theorem dX2_turnPlaces_53 : decode cX2_turnPlaces 53 = .ok (.aload_n 0, 1) := by decide +kernel
theorem dX2_turnPlaces_54 : decode cX2_turnPlaces 54 = .ok (.getfield 30, 3) := by decide +kernel
theorem dX2_turnPlaces_57 : decode cX2_turnPlaces 57 = .ok (.iload 4, 2) := by decide +kernel
theorem dX2_turnPlaces_59 : decode cX2_turnPlaces 59 = .ok (.aload_n 0, 1) := by decide +kernel
theorem dX2_turnPlaces_60 : decode cX2_turnPlaces 60 = .ok (.aload_n 0, 1) := by decide +kernel
theorem dX2_turnPlaces_61 : decode cX2_turnPlaces 61 = .ok (.getfield 40, 3) := by decide +kernel
theorem dX2_turnPlaces_64 : decode cX2_turnPlaces 64 = .ok (.iload_n 1, 1) := by decide +kernel
theorem dX2_turnPlaces_65 : decode cX2_turnPlaces 65 = .ok (.isub, 1) := by decide +kernel
theorem dX2_turnPlaces_66 : decode cX2_turnPlaces 66 = .ok (.iload_n 2, 1) := by decide +kernel
theorem dX2_turnPlaces_67 : decode cX2_turnPlaces 67 = .ok (.invokevirtual 69, 3) := by decide +kernel
theorem dX2_turnPlaces_70 : decode cX2_turnPlaces 70 = .ok (.iastore, 1) := by decide +kernel
theorem dX2_turnPlaces_71 : decode cX2_turnPlaces 71 = .ok (.aload_n 0, 1) := by decide +kernel
theorem dX2_turnPlaces_72 : decode cX2_turnPlaces 72 = .ok (.getfield 33, 3) := by decide +kernel
theorem dX2_turnPlaces_75 : decode cX2_turnPlaces 75 = .ok (.iload 4, 2) := by decide +kernel
theorem dX2_turnPlaces_77 : decode cX2_turnPlaces 77 = .ok (.iload_n 3, 1) := by decide +kernel
theorem dX2_turnPlaces_78 : decode cX2_turnPlaces 78 = .ok (.ifCond .eq 12, 3) := by decide +kernel
theorem dX2_turnPlaces_81 : decode cX2_turnPlaces 81 = .ok (.aload_n 0, 1) := by decide +kernel
theorem dX2_turnPlaces_82 : decode cX2_turnPlaces 82 = .ok (.iload_n 2, 1) := by decide +kernel
theorem dX2_turnPlaces_83 : decode cX2_turnPlaces 83 = .ok (.iload_n 1, 1) := by decide +kernel
theorem dX2_turnPlaces_84 : decode cX2_turnPlaces 84 = .ok (.invokevirtual 72, 3) := by decide +kernel
theorem dX2_turnPlaces_87 : decode cX2_turnPlaces 87 = .ok (.goto 5, 3) := by decide +kernel
theorem dX2_turnPlaces_90 : decode cX2_turnPlaces 90 = .ok (.iload 4, 2) := by decide +kernel
theorem dX2_turnPlaces_92 : decode cX2_turnPlaces 92 = .ok (.iastore, 1) := by decide +kernel
theorem dX2_turnPlaces_93 : decode cX2_turnPlaces 93 = .ok (.iload_n 1, 1) := by decide +kernel
theorem dX2_turnPlaces_94 : decode cX2_turnPlaces 94 = .ok (.aload_n 0, 1) := by decide +kernel
theorem dX2_turnPlaces_95 : decode cX2_turnPlaces 95 = .ok (.getfield 40, 3) := by decide +kernel
theorem dX2_turnPlaces_98 : decode cX2_turnPlaces 98 = .ok (.if_icmp .ge 71, 3) := by decide +kernel
theorem dX2_turnPlaces_101 : decode cX2_turnPlaces 101 = .ok (.aload_n 0, 1) := by decide +kernel
theorem dX2_turnPlaces_102 : decode cX2_turnPlaces 102 = .ok (.iload_n 1, 1) := by decide +kernel
theorem dX2_turnPlaces_103 : decode cX2_turnPlaces 103 = .ok (.iload_n 2, 1) := by decide +kernel
theorem dX2_turnPlaces_104 : decode cX2_turnPlaces 104 = .ok (.invokevirtual 72, 3) := by decide +kernel
theorem dX2_turnPlaces_107 : decode cX2_turnPlaces 107 = .ok (.istore 4, 2) := by decide +kernel
theorem dX2_turnPlaces_109 : decode cX2_turnPlaces 109 = .ok (.aload_n 0, 1) := by decide +kernel
theorem dX2_turnPlaces_110 : decode cX2_turnPlaces 110 = .ok (.getfield 27, 3) := by decide +kernel
theorem dX2_turnPlaces_113 : decode cX2_turnPlaces 113 = .ok (.iload 4, 2) := by decide +kernel
theorem dX2_turnPlaces_115 : decode cX2_turnPlaces 115 = .ok (.aload_n 0, 1) := by decide +kernel
theorem dX2_turnPlaces_116 : decode cX2_turnPlaces 116 = .ok (.iload_n 1, 1) := by decide +kernel
theorem dX2_turnPlaces_117 : decode cX2_turnPlaces 117 = .ok (.aload_n 0, 1) := by decide +kernel
theorem dX2_turnPlaces_118 : decode cX2_turnPlaces 118 = .ok (.getfield 36, 3) := by decide +kernel
theorem dX2_turnPlaces_121 : decode cX2_turnPlaces 121 = .ok (.iload_n 2, 1) := by decide +kernel
theorem dX2_turnPlaces_122 : decode cX2_turnPlaces 122 = .ok (.isub, 1) := by decide +kernel
theorem dX2_turnPlaces_123 : decode cX2_turnPlaces 123 = .ok (.invokevirtual 72, 3) := by decide +kernel
theorem dX2_turnPlaces_126 : decode cX2_turnPlaces 126 = .ok (.iastore, 1) := by decide +kernel
theorem dX2_turnPlaces_127 : decode cX2_turnPlaces 127 = .ok (.aload_n 0, 1) := by decide +kernel
theorem dX2_turnPlaces_128 : decode cX2_turnPlaces 128 = .ok (.getfield 30, 3) := by decide +kernel
theorem dX2_turnPlaces_131 : decode cX2_turnPlaces 131 = .ok (.iload 4, 2) := by decide +kernel
theorem dX2_turnPlaces_133 : decode cX2_turnPlaces 133 = .ok (.aload_n 0, 1) := by decide +kernel
theorem dX2_turnPlaces_134 : decode cX2_turnPlaces 134 = .ok (.aload_n 0, 1) := by decide +kernel
theorem dX2_turnPlaces_135 : decode cX2_turnPlaces 135 = .ok (.getfield 40, 3) := by decide +kernel
theorem dX2_turnPlaces_138 : decode cX2_turnPlaces 138 = .ok (.iconst 1, 1) := by decide +kernel
theorem dX2_turnPlaces_139 : decode cX2_turnPlaces 139 = .ok (.isub, 1) := by decide +kernel
theorem dX2_turnPlaces_140 : decode cX2_turnPlaces 140 = .ok (.iload_n 1, 1) := by decide +kernel
theorem dX2_turnPlaces_141 : decode cX2_turnPlaces 141 = .ok (.isub, 1) := by decide +kernel
theorem dX2_turnPlaces_142 : decode cX2_turnPlaces 142 = .ok (.iload_n 2, 1) := by decide +kernel
theorem dX2_turnPlaces_143 : decode cX2_turnPlaces 143 = .ok (.invokevirtual 72, 3) := by decide +kernel
theorem dX2_turnPlaces_146 : decode cX2_turnPlaces 146 = .ok (.iastore, 1) := by decide +kernel
theorem dX2_turnPlaces_147 : decode cX2_turnPlaces 147 = .ok (.aload_n 0, 1) := by decide +kernel
theorem dX2_turnPlaces_148 : decode cX2_turnPlaces 148 = .ok (.getfield 33, 3) := by decide +kernel
theorem dX2_turnPlaces_151 : decode cX2_turnPlaces 151 = .ok (.iload 4, 2) := by decide +kernel
theorem dX2_turnPlaces_153 : decode cX2_turnPlaces 153 = .ok (.iload_n 3, 1) := by decide +kernel
theorem dX2_turnPlaces_154 : decode cX2_turnPlaces 154 = .ok (.ifCond .eq 12, 3) := by decide +kernel
theorem dX2_turnPlaces_157 : decode cX2_turnPlaces 157 = .ok (.aload_n 0, 1) := by decide +kernel
theorem dX2_turnPlaces_158 : decode cX2_turnPlaces 158 = .ok (.iload_n 2, 1) := by decide +kernel
theorem dX2_turnPlaces_159 : decode cX2_turnPlaces 159 = .ok (.iload_n 1, 1) := by decide +kernel
theorem dX2_turnPlaces_160 : decode cX2_turnPlaces 160 = .ok (.invokevirtual 69, 3) := by decide +kernel
theorem dX2_turnPlaces_163 : decode cX2_turnPlaces 163 = .ok (.goto 5, 3) := by decide +kernel
theorem dX2_turnPlaces_166 : decode cX2_turnPlaces 166 = .ok (.iload 4, 2) := by decide +kernel
theorem dX2_turnPlaces_168 : decode cX2_turnPlaces 168 = .ok (.iastore, 1) := by decide +kernel
theorem dX2_turnPlaces_169 : decode cX2_turnPlaces 169 = .ok (.return_, 1) := by decide +kernel
theorem dX2_moved_0 : decode cX2_moved 0 = .ok (.iconst 0, 1) := by decide +kernel
theorem dX2_moved_1 : decode cX2_moved 1 = .ok (.istore_n 3, 1) := by decide +kernel
theorem dX2_moved_2 : decode cX2_moved 2 = .ok (.iconst 0, 1) := by decide +kernel
theorem dX2_moved_3 : decode cX2_moved 3 = .ok (.istore 4, 2) := by decide +kernel
theorem dX2_moved_5 : decode cX2_moved 5 = .ok (.iload 4, 2) := by decide +kernel
theorem dX2_moved_7 : decode cX2_moved 7 = .ok (.aload_n 0, 1) := by decide +kernel
theorem dX2_moved_8 : decode cX2_moved 8 = .ok (.getfield 47, 3) := by decide +kernel
theorem dX2_moved_11 : decode cX2_moved 11 = .ok (.if_icmp .ge 27, 3) := by decide +kernel
theorem dX2_moved_14 : decode cX2_moved 14 = .ok (.iload_n 1, 1) := by decide +kernel
theorem dX2_moved_15 : decode cX2_moved 15 = .ok (.iload 4, 2) := by decide +kernel
theorem dX2_moved_17 : decode cX2_moved 17 = .ok (.ishr, 1) := by decide +kernel
theorem dX2_moved_18 : decode cX2_moved 18 = .ok (.iconst 1, 1) := by decide +kernel
theorem dX2_moved_19 : decode cX2_moved 19 = .ok (.iand, 1) := by decide +kernel
theorem dX2_moved_20 : decode cX2_moved 20 = .ok (.ifCond .eq 12, 3) := by decide +kernel
theorem dX2_moved_23 : decode cX2_moved 23 = .ok (.iload_n 3, 1) := by decide +kernel
theorem dX2_moved_24 : decode cX2_moved 24 = .ok (.iconst 1, 1) := by decide +kernel
theorem dX2_moved_25 : decode cX2_moved 25 = .ok (.aload_n 2, 1) := by decide +kernel
theorem dX2_moved_26 : decode cX2_moved 26 = .ok (.iload 4, 2) := by decide +kernel
theorem dX2_moved_28 : decode cX2_moved 28 = .ok (.iaload, 1) := by decide +kernel
theorem dX2_moved_29 : decode cX2_moved 29 = .ok (.ishl, 1) := by decide +kernel
theorem dX2_moved_30 : decode cX2_moved 30 = .ok (.ior, 1) := by decide +kernel
theorem dX2_moved_31 : decode cX2_moved 31 = .ok (.istore_n 3, 1) := by decide +kernel
theorem dX2_moved_32 : decode cX2_moved 32 = .ok (.iinc 4 1, 3) := by decide +kernel
theorem dX2_moved_35 : decode cX2_moved 35 = .ok (.goto (-30), 3) := by decide +kernel
theorem dX2_moved_38 : decode cX2_moved 38 = .ok (.iload_n 3, 1) := by decide +kernel
theorem dX2_moved_39 : decode cX2_moved 39 = .ok (.ireturn, 1) := by decide +kernel
theorem dX2_mirrorsInto_0 : decode cX2_mirrorsInto 0 = .ok (.aload_n 0, 1) := by decide +kernel
theorem dX2_mirrorsInto_1 : decode cX2_mirrorsInto 1 = .ok (.iload_n 1, 1) := by decide +kernel
theorem dX2_mirrorsInto_2 : decode cX2_mirrorsInto 2 = .ok (.aload_n 0, 1) := by decide +kernel
theorem dX2_mirrorsInto_3 : decode cX2_mirrorsInto 3 = .ok (.getfield 30, 3) := by decide +kernel
theorem dX2_mirrorsInto_6 : decode cX2_mirrorsInto 6 = .ok (.invokevirtual 75, 3) := by decide +kernel
theorem dX2_mirrorsInto_9 : decode cX2_mirrorsInto 9 = .ok (.istore_n 3, 1) := by decide +kernel
theorem dX2_mirrorsInto_10 : decode cX2_mirrorsInto 10 = .ok (.iload_n 1, 1) := by decide +kernel
theorem dX2_mirrorsInto_11 : decode cX2_mirrorsInto 11 = .ok (.iload_n 2, 1) := by decide +kernel
theorem dX2_mirrorsInto_12 : decode cX2_mirrorsInto 12 = .ok (.if_icmp .eq 34, 3) := by decide +kernel
theorem dX2_mirrorsInto_15 : decode cX2_mirrorsInto 15 = .ok (.iload_n 3, 1) := by decide +kernel
theorem dX2_mirrorsInto_16 : decode cX2_mirrorsInto 16 = .ok (.iload_n 2, 1) := by decide +kernel
theorem dX2_mirrorsInto_17 : decode cX2_mirrorsInto 17 = .ok (.if_icmp .eq 29, 3) := by decide +kernel
theorem dX2_mirrorsInto_20 : decode cX2_mirrorsInto 20 = .ok (.aload_n 0, 1) := by decide +kernel
theorem dX2_mirrorsInto_21 : decode cX2_mirrorsInto 21 = .ok (.iload_n 1, 1) := by decide +kernel
theorem dX2_mirrorsInto_22 : decode cX2_mirrorsInto 22 = .ok (.aload_n 0, 1) := by decide +kernel
theorem dX2_mirrorsInto_23 : decode cX2_mirrorsInto 23 = .ok (.getfield 27, 3) := by decide +kernel
theorem dX2_mirrorsInto_26 : decode cX2_mirrorsInto 26 = .ok (.invokevirtual 75, 3) := by decide +kernel
theorem dX2_mirrorsInto_29 : decode cX2_mirrorsInto 29 = .ok (.iload_n 2, 1) := by decide +kernel
theorem dX2_mirrorsInto_30 : decode cX2_mirrorsInto 30 = .ok (.if_icmp .eq 16, 3) := by decide +kernel
theorem dX2_mirrorsInto_33 : decode cX2_mirrorsInto 33 = .ok (.aload_n 0, 1) := by decide +kernel
theorem dX2_mirrorsInto_34 : decode cX2_mirrorsInto 34 = .ok (.iload_n 3, 1) := by decide +kernel
theorem dX2_mirrorsInto_35 : decode cX2_mirrorsInto 35 = .ok (.aload_n 0, 1) := by decide +kernel
theorem dX2_mirrorsInto_36 : decode cX2_mirrorsInto 36 = .ok (.getfield 27, 3) := by decide +kernel
theorem dX2_mirrorsInto_39 : decode cX2_mirrorsInto 39 = .ok (.invokevirtual 75, 3) := by decide +kernel
theorem dX2_mirrorsInto_42 : decode cX2_mirrorsInto 42 = .ok (.iload_n 2, 1) := by decide +kernel
theorem dX2_mirrorsInto_43 : decode cX2_mirrorsInto 43 = .ok (.if_icmp .ne 7, 3) := by decide +kernel
theorem dX2_mirrorsInto_46 : decode cX2_mirrorsInto 46 = .ok (.iconst 1, 1) := by decide +kernel
theorem dX2_mirrorsInto_47 : decode cX2_mirrorsInto 47 = .ok (.goto 4, 3) := by decide +kernel
theorem dX2_mirrorsInto_50 : decode cX2_mirrorsInto 50 = .ok (.iconst 0, 1) := by decide +kernel
theorem dX2_mirrorsInto_51 : decode cX2_mirrorsInto 51 = .ok (.ireturn, 1) := by decide +kernel
theorem dX2_turnsInto_0 : decode cX2_turnsInto 0 = .ok (.aload_n 0, 1) := by decide +kernel
theorem dX2_turnsInto_1 : decode cX2_turnsInto 1 = .ok (.iload_n 1, 1) := by decide +kernel
theorem dX2_turnsInto_2 : decode cX2_turnsInto 2 = .ok (.iload_n 2, 1) := by decide +kernel
theorem dX2_turnsInto_3 : decode cX2_turnsInto 3 = .ok (.invokevirtual 79, 3) := by decide +kernel
theorem dX2_turnsInto_6 : decode cX2_turnsInto 6 = .ok (.ifCond .ne 31, 3) := by decide +kernel
theorem dX2_turnsInto_9 : decode cX2_turnsInto 9 = .ok (.aload_n 0, 1) := by decide +kernel
theorem dX2_turnsInto_10 : decode cX2_turnsInto 10 = .ok (.getfield 36, 3) := by decide +kernel
theorem dX2_turnsInto_13 : decode cX2_turnsInto 13 = .ok (.aload_n 0, 1) := by decide +kernel
theorem dX2_turnsInto_14 : decode cX2_turnsInto 14 = .ok (.getfield 40, 3) := by decide +kernel
theorem dX2_turnsInto_17 : decode cX2_turnsInto 17 = .ok (.if_icmp .ne 24, 3) := by decide +kernel
theorem dX2_turnsInto_20 : decode cX2_turnsInto 20 = .ok (.aload_n 0, 1) := by decide +kernel
theorem dX2_turnsInto_21 : decode cX2_turnsInto 21 = .ok (.aload_n 0, 1) := by decide +kernel
theorem dX2_turnsInto_22 : decode cX2_turnsInto 22 = .ok (.iload_n 1, 1) := by decide +kernel
theorem dX2_turnsInto_23 : decode cX2_turnsInto 23 = .ok (.aload_n 0, 1) := by decide +kernel
theorem dX2_turnsInto_24 : decode cX2_turnsInto 24 = .ok (.getfield 33, 3) := by decide +kernel
theorem dX2_turnsInto_27 : decode cX2_turnsInto 27 = .ok (.invokevirtual 75, 3) := by decide +kernel
theorem dX2_turnsInto_30 : decode cX2_turnsInto 30 = .ok (.iload_n 2, 1) := by decide +kernel
theorem dX2_turnsInto_31 : decode cX2_turnsInto 31 = .ok (.invokevirtual 79, 3) := by decide +kernel
theorem dX2_turnsInto_34 : decode cX2_turnsInto 34 = .ok (.ifCond .eq 7, 3) := by decide +kernel
theorem dX2_turnsInto_37 : decode cX2_turnsInto 37 = .ok (.iconst 1, 1) := by decide +kernel
theorem dX2_turnsInto_38 : decode cX2_turnsInto 38 = .ok (.goto 4, 3) := by decide +kernel
theorem dX2_turnsInto_41 : decode cX2_turnsInto 41 = .ok (.iconst 0, 1) := by decide +kernel
theorem dX2_turnsInto_42 : decode cX2_turnsInto 42 = .ok (.ireturn, 1) := by decide +kernel
theorem dX2_wholeAmong_0 : decode cX2_wholeAmong 0 = .ok (.iconst 0, 1) := by decide +kernel
theorem dX2_wholeAmong_1 : decode cX2_wholeAmong 1 = .ok (.istore_n 2, 1) := by decide +kernel
theorem dX2_wholeAmong_2 : decode cX2_wholeAmong 2 = .ok (.iconst 0, 1) := by decide +kernel
theorem dX2_wholeAmong_3 : decode cX2_wholeAmong 3 = .ok (.istore_n 3, 1) := by decide +kernel
theorem dX2_wholeAmong_4 : decode cX2_wholeAmong 4 = .ok (.iload_n 3, 1) := by decide +kernel
theorem dX2_wholeAmong_5 : decode cX2_wholeAmong 5 = .ok (.aload_n 0, 1) := by decide +kernel
theorem dX2_wholeAmong_6 : decode cX2_wholeAmong 6 = .ok (.getfield 50, 3) := by decide +kernel
theorem dX2_wholeAmong_9 : decode cX2_wholeAmong 9 = .ok (.if_icmp .ge 32, 3) := by decide +kernel
theorem dX2_wholeAmong_12 : decode cX2_wholeAmong 12 = .ok (.iload_n 1, 1) := by decide +kernel
theorem dX2_wholeAmong_13 : decode cX2_wholeAmong 13 = .ok (.aload_n 0, 1) := by decide +kernel
theorem dX2_wholeAmong_14 : decode cX2_wholeAmong 14 = .ok (.getfield 21, 3) := by decide +kernel
theorem dX2_wholeAmong_17 : decode cX2_wholeAmong 17 = .ok (.iload_n 3, 1) := by decide +kernel
theorem dX2_wholeAmong_18 : decode cX2_wholeAmong 18 = .ok (.iaload, 1) := by decide +kernel
theorem dX2_wholeAmong_19 : decode cX2_wholeAmong 19 = .ok (.iand, 1) := by decide +kernel
theorem dX2_wholeAmong_20 : decode cX2_wholeAmong 20 = .ok (.aload_n 0, 1) := by decide +kernel
theorem dX2_wholeAmong_21 : decode cX2_wholeAmong 21 = .ok (.getfield 21, 3) := by decide +kernel
theorem dX2_wholeAmong_24 : decode cX2_wholeAmong 24 = .ok (.iload_n 3, 1) := by decide +kernel
theorem dX2_wholeAmong_25 : decode cX2_wholeAmong 25 = .ok (.iaload, 1) := by decide +kernel
theorem dX2_wholeAmong_26 : decode cX2_wholeAmong 26 = .ok (.if_icmp .ne 9, 3) := by decide +kernel
theorem dX2_wholeAmong_29 : decode cX2_wholeAmong 29 = .ok (.iload_n 2, 1) := by decide +kernel
theorem dX2_wholeAmong_30 : decode cX2_wholeAmong 30 = .ok (.iconst 1, 1) := by decide +kernel
theorem dX2_wholeAmong_31 : decode cX2_wholeAmong 31 = .ok (.iload_n 3, 1) := by decide +kernel
theorem dX2_wholeAmong_32 : decode cX2_wholeAmong 32 = .ok (.ishl, 1) := by decide +kernel
theorem dX2_wholeAmong_33 : decode cX2_wholeAmong 33 = .ok (.ior, 1) := by decide +kernel
theorem dX2_wholeAmong_34 : decode cX2_wholeAmong 34 = .ok (.istore_n 2, 1) := by decide +kernel
theorem dX2_wholeAmong_35 : decode cX2_wholeAmong 35 = .ok (.iinc 3 1, 3) := by decide +kernel
theorem dX2_wholeAmong_38 : decode cX2_wholeAmong 38 = .ok (.goto (-34), 3) := by decide +kernel
theorem dX2_wholeAmong_41 : decode cX2_wholeAmong 41 = .ok (.iload_n 2, 1) := by decide +kernel
theorem dX2_wholeAmong_42 : decode cX2_wholeAmong 42 = .ok (.ireturn, 1) := by decide +kernel
theorem dX2_touching_0 : decode cX2_touching 0 = .ok (.iconst 0, 1) := by decide +kernel
theorem dX2_touching_1 : decode cX2_touching 1 = .ok (.istore_n 3, 1) := by decide +kernel
theorem dX2_touching_2 : decode cX2_touching 2 = .ok (.iconst 0, 1) := by decide +kernel
theorem dX2_touching_3 : decode cX2_touching 3 = .ok (.istore 4, 2) := by decide +kernel
theorem dX2_touching_5 : decode cX2_touching 5 = .ok (.iload 4, 2) := by decide +kernel
theorem dX2_touching_7 : decode cX2_touching 7 = .ok (.aload_n 0, 1) := by decide +kernel
theorem dX2_touching_8 : decode cX2_touching 8 = .ok (.getfield 50, 3) := by decide +kernel
theorem dX2_touching_11 : decode cX2_touching 11 = .ok (.if_icmp .ge 35, 3) := by decide +kernel
theorem dX2_touching_14 : decode cX2_touching 14 = .ok (.iload_n 1, 1) := by decide +kernel
theorem dX2_touching_15 : decode cX2_touching 15 = .ok (.iload 4, 2) := by decide +kernel
theorem dX2_touching_17 : decode cX2_touching 17 = .ok (.ishr, 1) := by decide +kernel
theorem dX2_touching_18 : decode cX2_touching 18 = .ok (.aload_n 0, 1) := by decide +kernel
theorem dX2_touching_19 : decode cX2_touching 19 = .ok (.getfield 21, 3) := by decide +kernel
theorem dX2_touching_22 : decode cX2_touching 22 = .ok (.iload 4, 2) := by decide +kernel
theorem dX2_touching_24 : decode cX2_touching 24 = .ok (.iaload, 1) := by decide +kernel
theorem dX2_touching_25 : decode cX2_touching 25 = .ok (.iload_n 2, 1) := by decide +kernel
theorem dX2_touching_26 : decode cX2_touching 26 = .ok (.ishr, 1) := by decide +kernel
theorem dX2_touching_27 : decode cX2_touching 27 = .ok (.iand, 1) := by decide +kernel
theorem dX2_touching_28 : decode cX2_touching 28 = .ok (.iconst 1, 1) := by decide +kernel
theorem dX2_touching_29 : decode cX2_touching 29 = .ok (.iand, 1) := by decide +kernel
theorem dX2_touching_30 : decode cX2_touching 30 = .ok (.ifCond .eq 10, 3) := by decide +kernel
theorem dX2_touching_33 : decode cX2_touching 33 = .ok (.iload_n 3, 1) := by decide +kernel
theorem dX2_touching_34 : decode cX2_touching 34 = .ok (.iconst 1, 1) := by decide +kernel
theorem dX2_touching_35 : decode cX2_touching 35 = .ok (.iload 4, 2) := by decide +kernel
theorem dX2_touching_37 : decode cX2_touching 37 = .ok (.ishl, 1) := by decide +kernel
theorem dX2_touching_38 : decode cX2_touching 38 = .ok (.ior, 1) := by decide +kernel
theorem dX2_touching_39 : decode cX2_touching 39 = .ok (.istore_n 3, 1) := by decide +kernel
theorem dX2_touching_40 : decode cX2_touching 40 = .ok (.iinc 4 1, 3) := by decide +kernel
theorem dX2_touching_43 : decode cX2_touching 43 = .ok (.goto (-38), 3) := by decide +kernel
theorem dX2_touching_46 : decode cX2_touching 46 = .ok (.iload_n 3, 1) := by decide +kernel
theorem dX2_touching_47 : decode cX2_touching 47 = .ok (.ireturn, 1) := by decide +kernel
theorem dX3_init_0 : decode cX3_init 0 = .ok (.aload_n 0, 1) := by decide +kernel
theorem dX3_init_1 : decode cX3_init 1 = .ok (.invokespecial 3, 3) := by decide +kernel
theorem dX3_init_4 : decode cX3_init 4 = .ok (.aload_n 0, 1) := by decide +kernel
theorem dX3_init_5 : decode cX3_init 5 = .ok (.sipush 465, 3) := by decide +kernel
theorem dX3_init_8 : decode cX3_init 8 = .ok (.newarray .int, 2) := by decide +kernel
theorem dX3_init_10 : decode cX3_init 10 = .ok (.putfield 11, 3) := by decide +kernel
theorem dX3_init_13 : decode cX3_init 13 = .ok (.aload_n 0, 1) := by decide +kernel
theorem dX3_init_14 : decode cX3_init 14 = .ok (.sipush 465, 3) := by decide +kernel
theorem dX3_init_17 : decode cX3_init 17 = .ok (.newarray .int, 2) := by decide +kernel
theorem dX3_init_19 : decode cX3_init 19 = .ok (.putfield 15, 3) := by decide +kernel
theorem dX3_init_22 : decode cX3_init 22 = .ok (.aload_n 0, 1) := by decide +kernel
theorem dX3_init_23 : decode cX3_init 23 = .ok (.sipush 465, 3) := by decide +kernel
theorem dX3_init_26 : decode cX3_init 26 = .ok (.newarray .int, 2) := by decide +kernel
theorem dX3_init_28 : decode cX3_init 28 = .ok (.putfield 18, 3) := by decide +kernel
theorem dX3_init_31 : decode cX3_init 31 = .ok (.return_, 1) := by decide +kernel
theorem dX3_moveAll_0 : decode cX3_moveAll 0 = .ok (.aload_n 0, 1) := by decide +kernel
theorem dX3_moveAll_1 : decode cX3_moveAll 1 = .ok (.getfield 11, 3) := by decide +kernel
theorem dX3_moveAll_4 : decode cX3_moveAll 4 = .ok (.iload_n 2, 1) := by decide +kernel
theorem dX3_moveAll_5 : decode cX3_moveAll 5 = .ok (.iload 4, 2) := by decide +kernel
theorem dX3_moveAll_7 : decode cX3_moveAll 7 = .ok (.invokestatic 21, 3) := by decide +kernel
theorem dX3_moveAll_10 : decode cX3_moveAll 10 = .ok (.istore 6, 2) := by decide +kernel
theorem dX3_moveAll_12 : decode cX3_moveAll 12 = .ok (.aload_n 0, 1) := by decide +kernel
theorem dX3_moveAll_13 : decode cX3_moveAll 13 = .ok (.getfield 15, 3) := by decide +kernel
theorem dX3_moveAll_16 : decode cX3_moveAll 16 = .ok (.aload_n 1, 1) := by decide +kernel
theorem dX3_moveAll_17 : decode cX3_moveAll 17 = .ok (.invokevirtual 25, 3) := by decide +kernel
theorem dX3_moveAll_20 : decode cX3_moveAll 20 = .ok (.iload_n 2, 1) := by decide +kernel
theorem dX3_moveAll_21 : decode cX3_moveAll 21 = .ok (.iconst (-1), 1) := by decide +kernel
theorem dX3_moveAll_22 : decode cX3_moveAll 22 = .ok (.ixor, 1) := by decide +kernel
theorem dX3_moveAll_23 : decode cX3_moveAll 23 = .ok (.iand, 1) := by decide +kernel
theorem dX3_moveAll_24 : decode cX3_moveAll 24 = .ok (.iload 4, 2) := by decide +kernel
theorem dX3_moveAll_26 : decode cX3_moveAll 26 = .ok (.invokestatic 21, 3) := by decide +kernel
theorem dX3_moveAll_29 : decode cX3_moveAll 29 = .ok (.istore 7, 2) := by decide +kernel
theorem dX3_moveAll_31 : decode cX3_moveAll 31 = .ok (.iconst 0, 1) := by decide +kernel
theorem dX3_moveAll_32 : decode cX3_moveAll 32 = .ok (.istore 8, 2) := by decide +kernel
theorem dX3_moveAll_34 : decode cX3_moveAll 34 = .ok (.iload 8, 2) := by decide +kernel
theorem dX3_moveAll_36 : decode cX3_moveAll 36 = .ok (.iload 7, 2) := by decide +kernel
theorem dX3_moveAll_38 : decode cX3_moveAll 38 = .ok (.if_icmp .ge 31, 3) := by decide +kernel
theorem dX3_moveAll_41 : decode cX3_moveAll 41 = .ok (.aload_n 0, 1) := by decide +kernel
theorem dX3_moveAll_42 : decode cX3_moveAll 42 = .ok (.getfield 18, 3) := by decide +kernel
theorem dX3_moveAll_45 : decode cX3_moveAll 45 = .ok (.iload 8, 2) := by decide +kernel
theorem dX3_moveAll_47 : decode cX3_moveAll 47 = .ok (.aload_n 1, 1) := by decide +kernel
theorem dX3_moveAll_48 : decode cX3_moveAll 48 = .ok (.iload_n 2, 1) := by decide +kernel
theorem dX3_moveAll_49 : decode cX3_moveAll 49 = .ok (.aload_n 0, 1) := by decide +kernel
theorem dX3_moveAll_50 : decode cX3_moveAll 50 = .ok (.getfield 15, 3) := by decide +kernel
theorem dX3_moveAll_53 : decode cX3_moveAll 53 = .ok (.iload 8, 2) := by decide +kernel
theorem dX3_moveAll_55 : decode cX3_moveAll 55 = .ok (.iaload, 1) := by decide +kernel
theorem dX3_moveAll_56 : decode cX3_moveAll 56 = .ok (.ior, 1) := by decide +kernel
theorem dX3_moveAll_57 : decode cX3_moveAll 57 = .ok (.invokevirtual 31, 3) := by decide +kernel
theorem dX3_moveAll_60 : decode cX3_moveAll 60 = .ok (.iload_n 3, 1) := by decide +kernel
theorem dX3_moveAll_61 : decode cX3_moveAll 61 = .ok (.iand, 1) := by decide +kernel
theorem dX3_moveAll_62 : decode cX3_moveAll 62 = .ok (.iastore, 1) := by decide +kernel
theorem dX3_moveAll_63 : decode cX3_moveAll 63 = .ok (.iinc 8 1, 3) := by decide +kernel
theorem dX3_moveAll_66 : decode cX3_moveAll 66 = .ok (.goto (-32), 3) := by decide +kernel
theorem dX3_moveAll_69 : decode cX3_moveAll 69 = .ok (.aload_n 0, 1) := by decide +kernel
theorem dX3_moveAll_70 : decode cX3_moveAll 70 = .ok (.iconst 0, 1) := by decide +kernel
theorem dX3_moveAll_71 : decode cX3_moveAll 71 = .ok (.putfield 35, 3) := by decide +kernel
theorem dX3_moveAll_74 : decode cX3_moveAll 74 = .ok (.iconst 0, 1) := by decide +kernel
theorem dX3_moveAll_75 : decode cX3_moveAll 75 = .ok (.istore 8, 2) := by decide +kernel
theorem dX3_moveAll_77 : decode cX3_moveAll 77 = .ok (.iload 8, 2) := by decide +kernel
theorem dX3_moveAll_79 : decode cX3_moveAll 79 = .ok (.iload 6, 2) := by decide +kernel
theorem dX3_moveAll_81 : decode cX3_moveAll 81 = .ok (.if_icmp .ge 81, 3) := by decide +kernel
theorem dX3_moveAll_84 : decode cX3_moveAll 84 = .ok (.aload_n 1, 1) := by decide +kernel
theorem dX3_moveAll_85 : decode cX3_moveAll 85 = .ok (.aload_n 1, 1) := by decide +kernel
theorem dX3_moveAll_86 : decode cX3_moveAll 86 = .ok (.invokevirtual 25, 3) := by decide +kernel
theorem dX3_moveAll_89 : decode cX3_moveAll 89 = .ok (.aload_n 0, 1) := by decide +kernel
theorem dX3_moveAll_90 : decode cX3_moveAll 90 = .ok (.getfield 11, 3) := by decide +kernel
theorem dX3_moveAll_93 : decode cX3_moveAll 93 = .ok (.iload 8, 2) := by decide +kernel
theorem dX3_moveAll_95 : decode cX3_moveAll 95 = .ok (.iaload, 1) := by decide +kernel
theorem dX3_moveAll_96 : decode cX3_moveAll 96 = .ok (.iconst (-1), 1) := by decide +kernel
theorem dX3_moveAll_97 : decode cX3_moveAll 97 = .ok (.ixor, 1) := by decide +kernel
theorem dX3_moveAll_98 : decode cX3_moveAll 98 = .ok (.iand, 1) := by decide +kernel
theorem dX3_moveAll_99 : decode cX3_moveAll 99 = .ok (.invokevirtual 31, 3) := by decide +kernel
theorem dX3_moveAll_102 : decode cX3_moveAll 102 = .ok (.istore 9, 2) := by decide +kernel
theorem dX3_moveAll_104 : decode cX3_moveAll 104 = .ok (.iconst 0, 1) := by decide +kernel
theorem dX3_moveAll_105 : decode cX3_moveAll 105 = .ok (.istore 10, 2) := by decide +kernel
theorem dX3_moveAll_107 : decode cX3_moveAll 107 = .ok (.iload 10, 2) := by decide +kernel
theorem dX3_moveAll_109 : decode cX3_moveAll 109 = .ok (.iload 7, 2) := by decide +kernel
theorem dX3_moveAll_111 : decode cX3_moveAll 111 = .ok (.if_icmp .ge 45, 3) := by decide +kernel
theorem dX3_moveAll_114 : decode cX3_moveAll 114 = .ok (.aload_n 0, 1) := by decide +kernel
theorem dX3_moveAll_115 : decode cX3_moveAll 115 = .ok (.getfield 18, 3) := by decide +kernel
theorem dX3_moveAll_118 : decode cX3_moveAll 118 = .ok (.iload 10, 2) := by decide +kernel
theorem dX3_moveAll_120 : decode cX3_moveAll 120 = .ok (.iaload, 1) := by decide +kernel
theorem dX3_moveAll_121 : decode cX3_moveAll 121 = .ok (.iload 9, 2) := by decide +kernel
theorem dX3_moveAll_123 : decode cX3_moveAll 123 = .ok (.iand, 1) := by decide +kernel
theorem dX3_moveAll_124 : decode cX3_moveAll 124 = .ok (.invokestatic 39, 3) := by decide +kernel
theorem dX3_moveAll_127 : decode cX3_moveAll 127 = .ok (.iload 5, 2) := by decide +kernel
theorem dX3_moveAll_129 : decode cX3_moveAll 129 = .ok (.if_icmp .ne 21, 3) := by decide +kernel
theorem dX3_moveAll_132 : decode cX3_moveAll 132 = .ok (.aload_n 0, 1) := by decide +kernel
theorem dX3_moveAll_133 : decode cX3_moveAll 133 = .ok (.aload_n 0, 1) := by decide +kernel
theorem dX3_moveAll_134 : decode cX3_moveAll 134 = .ok (.getfield 11, 3) := by decide +kernel
theorem dX3_moveAll_137 : decode cX3_moveAll 137 = .ok (.iload 8, 2) := by decide +kernel
theorem dX3_moveAll_139 : decode cX3_moveAll 139 = .ok (.iaload, 1) := by decide +kernel
theorem dX3_moveAll_140 : decode cX3_moveAll 140 = .ok (.aload_n 0, 1) := by decide +kernel
theorem dX3_moveAll_141 : decode cX3_moveAll 141 = .ok (.getfield 15, 3) := by decide +kernel
theorem dX3_moveAll_144 : decode cX3_moveAll 144 = .ok (.iload 10, 2) := by decide +kernel
theorem dX3_moveAll_146 : decode cX3_moveAll 146 = .ok (.iaload, 1) := by decide +kernel
theorem dX3_moveAll_147 : decode cX3_moveAll 147 = .ok (.invokevirtual 44, 3) := by decide +kernel
theorem dX3_moveAll_150 : decode cX3_moveAll 150 = .ok (.iinc 10 1, 3) := by decide +kernel
theorem dX3_moveAll_153 : decode cX3_moveAll 153 = .ok (.goto (-46), 3) := by decide +kernel
theorem dX3_moveAll_156 : decode cX3_moveAll 156 = .ok (.iinc 8 1, 3) := by decide +kernel
theorem dX3_moveAll_159 : decode cX3_moveAll 159 = .ok (.goto (-82), 3) := by decide +kernel
theorem dX3_moveAll_162 : decode cX3_moveAll 162 = .ok (.return_, 1) := by decide +kernel
theorem dX3_noteMove_0 : decode cX3_noteMove 0 = .ok (.aload_n 0, 1) := by decide +kernel
theorem dX3_noteMove_1 : decode cX3_noteMove 1 = .ok (.getfield 35, 3) := by decide +kernel
theorem dX3_noteMove_4 : decode cX3_noteMove 4 = .ok (.ifCond .ne 13, 3) := by decide +kernel
theorem dX3_noteMove_7 : decode cX3_noteMove 7 = .ok (.aload_n 0, 1) := by decide +kernel
theorem dX3_noteMove_8 : decode cX3_noteMove 8 = .ok (.iload_n 1, 1) := by decide +kernel
theorem dX3_noteMove_9 : decode cX3_noteMove 9 = .ok (.putfield 48, 3) := by decide +kernel
theorem dX3_noteMove_12 : decode cX3_noteMove 12 = .ok (.aload_n 0, 1) := by decide +kernel
theorem dX3_noteMove_13 : decode cX3_noteMove 13 = .ok (.iload_n 2, 1) := by decide +kernel
theorem dX3_noteMove_14 : decode cX3_noteMove 14 = .ok (.putfield 51, 3) := by decide +kernel
theorem dX3_noteMove_17 : decode cX3_noteMove 17 = .ok (.aload_n 0, 1) := by decide +kernel
theorem dX3_noteMove_18 : decode cX3_noteMove 18 = .ok (.dup, 1) := by decide +kernel
theorem dX3_noteMove_19 : decode cX3_noteMove 19 = .ok (.getfield 35, 3) := by decide +kernel
theorem dX3_noteMove_22 : decode cX3_noteMove 22 = .ok (.iconst 1, 1) := by decide +kernel
theorem dX3_noteMove_23 : decode cX3_noteMove 23 = .ok (.iadd, 1) := by decide +kernel
theorem dX3_noteMove_24 : decode cX3_noteMove 24 = .ok (.putfield 35, 3) := by decide +kernel
theorem dX3_noteMove_27 : decode cX3_noteMove 27 = .ok (.return_, 1) := by decide +kernel
theorem dX3_listSets_0 : decode cX3_listSets 0 = .ok (.iconst 0, 1) := by decide +kernel
theorem dX3_listSets_1 : decode cX3_listSets 1 = .ok (.istore_n 3, 1) := by decide +kernel
theorem dX3_listSets_2 : decode cX3_listSets 2 = .ok (.iconst 0, 1) := by decide +kernel
theorem dX3_listSets_3 : decode cX3_listSets 3 = .ok (.istore 4, 2) := by decide +kernel
theorem dX3_listSets_5 : decode cX3_listSets 5 = .ok (.iload 4, 2) := by decide +kernel
theorem dX3_listSets_7 : decode cX3_listSets 7 = .ok (.bipush 31, 2) := by decide +kernel
theorem dX3_listSets_9 : decode cX3_listSets 9 = .ok (.if_icmp .ge 97, 3) := by decide +kernel
theorem dX3_listSets_12 : decode cX3_listSets 12 = .ok (.iconst 1, 1) := by decide +kernel
theorem dX3_listSets_13 : decode cX3_listSets 13 = .ok (.iload 4, 2) := by decide +kernel
theorem dX3_listSets_15 : decode cX3_listSets 15 = .ok (.ishl, 1) := by decide +kernel
theorem dX3_listSets_16 : decode cX3_listSets 16 = .ok (.istore 5, 2) := by decide +kernel
theorem dX3_listSets_18 : decode cX3_listSets 18 = .ok (.iload_n 1, 1) := by decide +kernel
theorem dX3_listSets_19 : decode cX3_listSets 19 = .ok (.iload 5, 2) := by decide +kernel
theorem dX3_listSets_21 : decode cX3_listSets 21 = .ok (.iand, 1) := by decide +kernel
theorem dX3_listSets_22 : decode cX3_listSets 22 = .ok (.ifCond .eq 22, 3) := by decide +kernel
theorem dX3_listSets_25 : decode cX3_listSets 25 = .ok (.iload_n 2, 1) := by decide +kernel
theorem dX3_listSets_26 : decode cX3_listSets 26 = .ok (.iconst 1, 1) := by decide +kernel
theorem dX3_listSets_27 : decode cX3_listSets 27 = .ok (.if_icmp .ne 17, 3) := by decide +kernel
theorem dX3_listSets_30 : decode cX3_listSets 30 = .ok (.iload_n 3, 1) := by decide +kernel
theorem dX3_listSets_31 : decode cX3_listSets 31 = .ok (.aload_n 0, 1) := by decide +kernel
theorem dX3_listSets_32 : decode cX3_listSets 32 = .ok (.arraylength, 1) := by decide +kernel
theorem dX3_listSets_33 : decode cX3_listSets 33 = .ok (.if_icmp .ge 11, 3) := by decide +kernel
theorem dX3_listSets_36 : decode cX3_listSets 36 = .ok (.aload_n 0, 1) := by decide +kernel
theorem dX3_listSets_37 : decode cX3_listSets 37 = .ok (.iload_n 3, 1) := by decide +kernel
theorem dX3_listSets_38 : decode cX3_listSets 38 = .ok (.iinc 3 1, 3) := by decide +kernel
theorem dX3_listSets_41 : decode cX3_listSets 41 = .ok (.iload 5, 2) := by decide +kernel
theorem dX3_listSets_43 : decode cX3_listSets 43 = .ok (.iastore, 1) := by decide +kernel
theorem dX3_listSets_44 : decode cX3_listSets 44 = .ok (.iconst 0, 1) := by decide +kernel
theorem dX3_listSets_45 : decode cX3_listSets 45 = .ok (.istore 6, 2) := by decide +kernel
theorem dX3_listSets_47 : decode cX3_listSets 47 = .ok (.iload 6, 2) := by decide +kernel
theorem dX3_listSets_49 : decode cX3_listSets 49 = .ok (.iload 4, 2) := by decide +kernel
theorem dX3_listSets_51 : decode cX3_listSets 51 = .ok (.if_icmp .ge 49, 3) := by decide +kernel
theorem dX3_listSets_54 : decode cX3_listSets 54 = .ok (.iload_n 2, 1) := by decide +kernel
theorem dX3_listSets_55 : decode cX3_listSets 55 = .ok (.iconst 2, 1) := by decide +kernel
theorem dX3_listSets_56 : decode cX3_listSets 56 = .ok (.if_icmp .ne 44, 3) := by decide +kernel
theorem dX3_listSets_59 : decode cX3_listSets 59 = .ok (.iload_n 1, 1) := by decide +kernel
theorem dX3_listSets_60 : decode cX3_listSets 60 = .ok (.iload 5, 2) := by decide +kernel
theorem dX3_listSets_62 : decode cX3_listSets 62 = .ok (.iand, 1) := by decide +kernel
theorem dX3_listSets_63 : decode cX3_listSets 63 = .ok (.ifCond .eq 37, 3) := by decide +kernel
theorem dX3_listSets_66 : decode cX3_listSets 66 = .ok (.iload_n 1, 1) := by decide +kernel
theorem dX3_listSets_67 : decode cX3_listSets 67 = .ok (.iload 6, 2) := by decide +kernel
theorem dX3_listSets_69 : decode cX3_listSets 69 = .ok (.ishr, 1) := by decide +kernel
theorem dX3_listSets_70 : decode cX3_listSets 70 = .ok (.iconst 1, 1) := by decide +kernel
theorem dX3_listSets_71 : decode cX3_listSets 71 = .ok (.iand, 1) := by decide +kernel
theorem dX3_listSets_72 : decode cX3_listSets 72 = .ok (.ifCond .eq 22, 3) := by decide +kernel
theorem dX3_listSets_75 : decode cX3_listSets 75 = .ok (.iload_n 3, 1) := by decide +kernel
theorem dX3_listSets_76 : decode cX3_listSets 76 = .ok (.aload_n 0, 1) := by decide +kernel
theorem dX3_listSets_77 : decode cX3_listSets 77 = .ok (.arraylength, 1) := by decide +kernel
theorem dX3_listSets_78 : decode cX3_listSets 78 = .ok (.if_icmp .ge 16, 3) := by decide +kernel
theorem dX3_listSets_81 : decode cX3_listSets 81 = .ok (.aload_n 0, 1) := by decide +kernel
theorem dX3_listSets_82 : decode cX3_listSets 82 = .ok (.iload_n 3, 1) := by decide +kernel
theorem dX3_listSets_83 : decode cX3_listSets 83 = .ok (.iinc 3 1, 3) := by decide +kernel
theorem dX3_listSets_86 : decode cX3_listSets 86 = .ok (.iload 5, 2) := by decide +kernel
theorem dX3_listSets_88 : decode cX3_listSets 88 = .ok (.iconst 1, 1) := by decide +kernel
theorem dX3_listSets_89 : decode cX3_listSets 89 = .ok (.iload 6, 2) := by decide +kernel
theorem dX3_listSets_91 : decode cX3_listSets 91 = .ok (.ishl, 1) := by decide +kernel
theorem dX3_listSets_92 : decode cX3_listSets 92 = .ok (.ior, 1) := by decide +kernel
theorem dX3_listSets_93 : decode cX3_listSets 93 = .ok (.iastore, 1) := by decide +kernel
theorem dX3_listSets_94 : decode cX3_listSets 94 = .ok (.iinc 6 1, 3) := by decide +kernel
theorem dX3_listSets_97 : decode cX3_listSets 97 = .ok (.goto (-50), 3) := by decide +kernel
theorem dX3_listSets_100 : decode cX3_listSets 100 = .ok (.iinc 4 1, 3) := by decide +kernel
theorem dX3_listSets_103 : decode cX3_listSets 103 = .ok (.goto (-98), 3) := by decide +kernel
theorem dX3_listSets_106 : decode cX3_listSets 106 = .ok (.iload_n 3, 1) := by decide +kernel
theorem dX3_listSets_107 : decode cX3_listSets 107 = .ok (.ireturn, 1) := by decide +kernel
end
section
theorem dX4_init_0 : decode cX4_init 0 = .ok (.aload_n 0, 1) := by decide +kernel
theorem dX4_init_1 : decode cX4_init 1 = .ok (.invokespecial 3, 3) := by decide +kernel
theorem dX4_init_4 : decode cX4_init 4 = .ok (.aload_n 0, 1) := by decide +kernel
theorem dX4_init_5 : decode cX4_init 5 = .ok (.iconst 3, 1) := by decide +kernel
theorem dX4_init_6 : decode cX4_init 6 = .ok (.newarray .int, 2) := by decide +kernel
theorem dX4_init_8 : decode cX4_init 8 = .ok (.putfield 9, 3) := by decide +kernel
theorem dX4_init_11 : decode cX4_init 11 = .ok (.aload_n 0, 1) := by decide +kernel
theorem dX4_init_12 : decode cX4_init 12 = .ok (.iconst 3, 1) := by decide +kernel
theorem dX4_init_13 : decode cX4_init 13 = .ok (.newarray .int, 2) := by decide +kernel
theorem dX4_init_15 : decode cX4_init 15 = .ok (.putfield 15, 3) := by decide +kernel
theorem dX4_init_18 : decode cX4_init 18 = .ok (.aload_n 0, 1) := by decide +kernel
theorem dX4_init_19 : decode cX4_init 19 = .ok (.bipush 31, 2) := by decide +kernel
theorem dX4_init_21 : decode cX4_init 21 = .ok (.newarray .int, 2) := by decide +kernel
theorem dX4_init_23 : decode cX4_init 23 = .ok (.putfield 18, 3) := by decide +kernel
theorem dX4_init_26 : decode cX4_init 26 = .ok (.aload_n 0, 1) := by decide +kernel
theorem dX4_init_27 : decode cX4_init 27 = .ok (.bipush 31, 2) := by decide +kernel
theorem dX4_init_29 : decode cX4_init 29 = .ok (.newarray .int, 2) := by decide +kernel
theorem dX4_init_31 : decode cX4_init 31 = .ok (.putfield 21, 3) := by decide +kernel
theorem dX4_init_34 : decode cX4_init 34 = .ok (.return_, 1) := by decide +kernel
theorem dX4_wantNothing_0 : decode cX4_wantNothing 0 = .ok (.aload_n 0, 1) := by decide +kernel
theorem dX4_wantNothing_1 : decode cX4_wantNothing 1 = .ok (.iconst 0, 1) := by decide +kernel
theorem dX4_wantNothing_2 : decode cX4_wantNothing 2 = .ok (.putfield 24, 3) := by decide +kernel
theorem dX4_wantNothing_5 : decode cX4_wantNothing 5 = .ok (.return_, 1) := by decide +kernel
theorem dX4_want_0 : decode cX4_want 0 = .ok (.aload_n 0, 1) := by decide +kernel
theorem dX4_want_1 : decode cX4_want 1 = .ok (.getfield 24, 3) := by decide +kernel
theorem dX4_want_4 : decode cX4_want 4 = .ok (.iconst 3, 1) := by decide +kernel
theorem dX4_want_5 : decode cX4_want 5 = .ok (.if_icmp .ge 33, 3) := by decide +kernel
theorem dX4_want_8 : decode cX4_want 8 = .ok (.aload_n 0, 1) := by decide +kernel
theorem dX4_want_9 : decode cX4_want 9 = .ok (.getfield 9, 3) := by decide +kernel
theorem dX4_want_12 : decode cX4_want 12 = .ok (.aload_n 0, 1) := by decide +kernel
theorem dX4_want_13 : decode cX4_want 13 = .ok (.getfield 24, 3) := by decide +kernel
theorem dX4_want_16 : decode cX4_want 16 = .ok (.iload_n 1, 1) := by decide +kernel
theorem dX4_want_17 : decode cX4_want 17 = .ok (.iastore, 1) := by decide +kernel
theorem dX4_want_18 : decode cX4_want 18 = .ok (.aload_n 0, 1) := by decide +kernel
theorem dX4_want_19 : decode cX4_want 19 = .ok (.getfield 15, 3) := by decide +kernel
theorem dX4_want_22 : decode cX4_want 22 = .ok (.aload_n 0, 1) := by decide +kernel
theorem dX4_want_23 : decode cX4_want 23 = .ok (.getfield 24, 3) := by decide +kernel
theorem dX4_want_26 : decode cX4_want 26 = .ok (.iload_n 2, 1) := by decide +kernel
theorem dX4_want_27 : decode cX4_want 27 = .ok (.iastore, 1) := by decide +kernel
theorem dX4_want_28 : decode cX4_want 28 = .ok (.aload_n 0, 1) := by decide +kernel
theorem dX4_want_29 : decode cX4_want 29 = .ok (.dup, 1) := by decide +kernel
theorem dX4_want_30 : decode cX4_want 30 = .ok (.getfield 24, 3) := by decide +kernel
theorem dX4_want_33 : decode cX4_want 33 = .ok (.iconst 1, 1) := by decide +kernel
theorem dX4_want_34 : decode cX4_want 34 = .ok (.iadd, 1) := by decide +kernel
theorem dX4_want_35 : decode cX4_want 35 = .ok (.putfield 24, 3) := by decide +kernel
theorem dX4_want_38 : decode cX4_want 38 = .ok (.return_, 1) := by decide +kernel
theorem dX4_pickAll_0 : decode cX4_pickAll 0 = .ok (.iconst 0, 1) := by decide +kernel
theorem dX4_pickAll_1 : decode cX4_pickAll 1 = .ok (.istore 5, 2) := by decide +kernel
theorem dX4_pickAll_3 : decode cX4_pickAll 3 = .ok (.iconst 0, 1) := by decide +kernel
theorem dX4_pickAll_4 : decode cX4_pickAll 4 = .ok (.istore 6, 2) := by decide +kernel
theorem dX4_pickAll_6 : decode cX4_pickAll 6 = .ok (.iload 6, 2) := by decide +kernel
theorem dX4_pickAll_8 : decode cX4_pickAll 8 = .ok (.aload_n 1, 1) := by decide +kernel
theorem dX4_pickAll_9 : decode cX4_pickAll 9 = .ok (.getfield 28, 3) := by decide +kernel
theorem dX4_pickAll_12 : decode cX4_pickAll 12 = .ok (.if_icmp .ge 46, 3) := by decide +kernel
theorem dX4_pickAll_15 : decode cX4_pickAll 15 = .ok (.iload_n 2, 1) := by decide +kernel
theorem dX4_pickAll_16 : decode cX4_pickAll 16 = .ok (.iload 6, 2) := by decide +kernel
theorem dX4_pickAll_18 : decode cX4_pickAll 18 = .ok (.ishr, 1) := by decide +kernel
theorem dX4_pickAll_19 : decode cX4_pickAll 19 = .ok (.iconst 1, 1) := by decide +kernel
theorem dX4_pickAll_20 : decode cX4_pickAll 20 = .ok (.iand, 1) := by decide +kernel
theorem dX4_pickAll_21 : decode cX4_pickAll 21 = .ok (.ifCond .eq 31, 3) := by decide +kernel
theorem dX4_pickAll_24 : decode cX4_pickAll 24 = .ok (.aload_n 0, 1) := by decide +kernel
theorem dX4_pickAll_25 : decode cX4_pickAll 25 = .ok (.getfield 18, 3) := by decide +kernel
theorem dX4_pickAll_28 : decode cX4_pickAll 28 = .ok (.iload 5, 2) := by decide +kernel
theorem dX4_pickAll_30 : decode cX4_pickAll 30 = .ok (.iconst 1, 1) := by decide +kernel
theorem dX4_pickAll_31 : decode cX4_pickAll 31 = .ok (.iload 6, 2) := by decide +kernel
theorem dX4_pickAll_33 : decode cX4_pickAll 33 = .ok (.ishl, 1) := by decide +kernel
theorem dX4_pickAll_34 : decode cX4_pickAll 34 = .ok (.iastore, 1) := by decide +kernel
theorem dX4_pickAll_35 : decode cX4_pickAll 35 = .ok (.aload_n 0, 1) := by decide +kernel
theorem dX4_pickAll_36 : decode cX4_pickAll 36 = .ok (.getfield 21, 3) := by decide +kernel
theorem dX4_pickAll_39 : decode cX4_pickAll 39 = .ok (.iload 5, 2) := by decide +kernel
theorem dX4_pickAll_41 : decode cX4_pickAll 41 = .ok (.aload_n 1, 1) := by decide +kernel
theorem dX4_pickAll_42 : decode cX4_pickAll 42 = .ok (.iconst (-1), 1) := by decide +kernel
theorem dX4_pickAll_43 : decode cX4_pickAll 43 = .ok (.iload 6, 2) := by decide +kernel
theorem dX4_pickAll_45 : decode cX4_pickAll 45 = .ok (.invokevirtual 33, 3) := by decide +kernel
theorem dX4_pickAll_48 : decode cX4_pickAll 48 = .ok (.iastore, 1) := by decide +kernel
theorem dX4_pickAll_49 : decode cX4_pickAll 49 = .ok (.iinc 5 1, 3) := by decide +kernel
theorem dX4_pickAll_52 : decode cX4_pickAll 52 = .ok (.iinc 6 1, 3) := by decide +kernel
theorem dX4_pickAll_55 : decode cX4_pickAll 55 = .ok (.goto (-49), 3) := by decide +kernel
theorem dX4_pickAll_58 : decode cX4_pickAll 58 = .ok (.aload_n 0, 1) := by decide +kernel
theorem dX4_pickAll_59 : decode cX4_pickAll 59 = .ok (.iconst 0, 1) := by decide +kernel
theorem dX4_pickAll_60 : decode cX4_pickAll 60 = .ok (.putfield 37, 3) := by decide +kernel
theorem dX4_pickAll_63 : decode cX4_pickAll 63 = .ok (.aload_n 0, 1) := by decide +kernel
theorem dX4_pickAll_64 : decode cX4_pickAll 64 = .ok (.iconst 0, 1) := by decide +kernel
theorem dX4_pickAll_65 : decode cX4_pickAll 65 = .ok (.putfield 40, 3) := by decide +kernel
theorem dX4_pickAll_68 : decode cX4_pickAll 68 = .ok (.aload_n 0, 1) := by decide +kernel
theorem dX4_pickAll_69 : decode cX4_pickAll 69 = .ok (.iconst (-1), 1) := by decide +kernel
theorem dX4_pickAll_70 : decode cX4_pickAll 70 = .ok (.putfield 43, 3) := by decide +kernel
theorem dX4_pickAll_73 : decode cX4_pickAll 73 = .ok (.aload_n 0, 1) := by decide +kernel
theorem dX4_pickAll_74 : decode cX4_pickAll 74 = .ok (.iconst 0, 1) := by decide +kernel
theorem dX4_pickAll_75 : decode cX4_pickAll 75 = .ok (.putfield 46, 3) := by decide +kernel
theorem dX4_pickAll_78 : decode cX4_pickAll 78 = .ok (.aload_n 0, 1) := by decide +kernel
theorem dX4_pickAll_79 : decode cX4_pickAll 79 = .ok (.iload 4, 2) := by decide +kernel
theorem dX4_pickAll_81 : decode cX4_pickAll 81 = .ok (.putfield 49, 3) := by decide +kernel
theorem dX4_pickAll_84 : decode cX4_pickAll 84 = .ok (.aload_n 0, 1) := by decide +kernel
theorem dX4_pickAll_85 : decode cX4_pickAll 85 = .ok (.iload 5, 2) := by decide +kernel
theorem dX4_pickAll_87 : decode cX4_pickAll 87 = .ok (.iload_n 3, 1) := by decide +kernel
theorem dX4_pickAll_88 : decode cX4_pickAll 88 = .ok (.iconst 0, 1) := by decide +kernel
theorem dX4_pickAll_89 : decode cX4_pickAll 89 = .ok (.iconst 0, 1) := by decide +kernel
theorem dX4_pickAll_90 : decode cX4_pickAll 90 = .ok (.invokestatic 52, 3) := by decide +kernel
theorem dX4_pickAll_93 : decode cX4_pickAll 93 = .ok (.return_, 1) := by decide +kernel
theorem dX4_pickBelow_0 : decode cX4_pickBelow 0 = .ok (.iload_n 2, 1) := by decide +kernel
theorem dX4_pickBelow_1 : decode cX4_pickBelow 1 = .ok (.ifCond .gt 11, 3) := by decide +kernel
theorem dX4_pickBelow_4 : decode cX4_pickBelow 4 = .ok (.aload_n 0, 1) := by decide +kernel
theorem dX4_pickBelow_5 : decode cX4_pickBelow 5 = .ok (.iload_n 3, 1) := by decide +kernel
theorem dX4_pickBelow_6 : decode cX4_pickBelow 6 = .ok (.iload 4, 2) := by decide +kernel
theorem dX4_pickBelow_8 : decode cX4_pickBelow 8 = .ok (.invokevirtual 56, 3) := by decide +kernel
theorem dX4_pickBelow_11 : decode cX4_pickBelow 11 = .ok (.return_, 1) := by decide +kernel
theorem dX4_pickBelow_12 : decode cX4_pickBelow 12 = .ok (.iload_n 2, 1) := by decide +kernel
theorem dX4_pickBelow_13 : decode cX4_pickBelow 13 = .ok (.iconst 1, 1) := by decide +kernel
theorem dX4_pickBelow_14 : decode cX4_pickBelow 14 = .ok (.isub, 1) := by decide +kernel
theorem dX4_pickBelow_15 : decode cX4_pickBelow 15 = .ok (.istore 5, 2) := by decide +kernel
theorem dX4_pickBelow_17 : decode cX4_pickBelow 17 = .ok (.iload 5, 2) := by decide +kernel
theorem dX4_pickBelow_19 : decode cX4_pickBelow 19 = .ok (.iload_n 1, 1) := by decide +kernel
theorem dX4_pickBelow_20 : decode cX4_pickBelow 20 = .ok (.if_icmp .ge 37, 3) := by decide +kernel
theorem dX4_pickBelow_23 : decode cX4_pickBelow 23 = .ok (.aload_n 0, 1) := by decide +kernel
theorem dX4_pickBelow_24 : decode cX4_pickBelow 24 = .ok (.iload 5, 2) := by decide +kernel
theorem dX4_pickBelow_26 : decode cX4_pickBelow 26 = .ok (.iload_n 2, 1) := by decide +kernel
theorem dX4_pickBelow_27 : decode cX4_pickBelow 27 = .ok (.iconst 1, 1) := by decide +kernel
theorem dX4_pickBelow_28 : decode cX4_pickBelow 28 = .ok (.isub, 1) := by decide +kernel
theorem dX4_pickBelow_29 : decode cX4_pickBelow 29 = .ok (.iload_n 3, 1) := by decide +kernel
theorem dX4_pickBelow_30 : decode cX4_pickBelow 30 = .ok (.aload_n 0, 1) := by decide +kernel
theorem dX4_pickBelow_31 : decode cX4_pickBelow 31 = .ok (.getfield 18, 3) := by decide +kernel
theorem dX4_pickBelow_34 : decode cX4_pickBelow 34 = .ok (.iload 5, 2) := by decide +kernel
theorem dX4_pickBelow_36 : decode cX4_pickBelow 36 = .ok (.iaload, 1) := by decide +kernel
theorem dX4_pickBelow_37 : decode cX4_pickBelow 37 = .ok (.ior, 1) := by decide +kernel
theorem dX4_pickBelow_38 : decode cX4_pickBelow 38 = .ok (.iload 4, 2) := by decide +kernel
theorem dX4_pickBelow_40 : decode cX4_pickBelow 40 = .ok (.aload_n 0, 1) := by decide +kernel
theorem dX4_pickBelow_41 : decode cX4_pickBelow 41 = .ok (.getfield 21, 3) := by decide +kernel
theorem dX4_pickBelow_44 : decode cX4_pickBelow 44 = .ok (.iload 5, 2) := by decide +kernel
theorem dX4_pickBelow_46 : decode cX4_pickBelow 46 = .ok (.iaload, 1) := by decide +kernel
theorem dX4_pickBelow_47 : decode cX4_pickBelow 47 = .ok (.ior, 1) := by decide +kernel
theorem dX4_pickBelow_48 : decode cX4_pickBelow 48 = .ok (.invokestatic 52, 3) := by decide +kernel
theorem dX4_pickBelow_51 : decode cX4_pickBelow 51 = .ok (.iinc 5 1, 3) := by decide +kernel
theorem dX4_pickBelow_54 : decode cX4_pickBelow 54 = .ok (.goto (-37), 3) := by decide +kernel
theorem dX4_pickBelow_57 : decode cX4_pickBelow 57 = .ok (.return_, 1) := by decide +kernel
theorem dX4_look_0 : decode cX4_look 0 = .ok (.aload_n 0, 1) := by decide +kernel
theorem dX4_look_1 : decode cX4_look 1 = .ok (.dup, 1) := by decide +kernel
theorem dX4_look_2 : decode cX4_look 2 = .ok (.getfield 46, 3) := by decide +kernel
theorem dX4_look_5 : decode cX4_look 5 = .ok (.iconst 1, 1) := by decide +kernel
theorem dX4_look_6 : decode cX4_look 6 = .ok (.aload_n 0, 1) := by decide +kernel
theorem dX4_look_7 : decode cX4_look 7 = .ok (.getfield 49, 3) := by decide +kernel
theorem dX4_look_10 : decode cX4_look 10 = .ok (.iload_n 2, 1) := by decide +kernel
theorem dX4_look_11 : decode cX4_look 11 = .ok (.iconst (-1), 1) := by decide +kernel
theorem dX4_look_12 : decode cX4_look 12 = .ok (.ixor, 1) := by decide +kernel
theorem dX4_look_13 : decode cX4_look 13 = .ok (.iand, 1) := by decide +kernel
theorem dX4_look_14 : decode cX4_look 14 = .ok (.invokestatic 60, 3) := by decide +kernel
theorem dX4_look_17 : decode cX4_look 17 = .ok (.ishl, 1) := by decide +kernel
theorem dX4_look_18 : decode cX4_look 18 = .ok (.ior, 1) := by decide +kernel
theorem dX4_look_19 : decode cX4_look 19 = .ok (.putfield 46, 3) := by decide +kernel
theorem dX4_look_22 : decode cX4_look 22 = .ok (.iconst 0, 1) := by decide +kernel
theorem dX4_look_23 : decode cX4_look 23 = .ok (.istore_n 3, 1) := by decide +kernel
theorem dX4_look_24 : decode cX4_look 24 = .ok (.iload_n 3, 1) := by decide +kernel
theorem dX4_look_25 : decode cX4_look 25 = .ok (.aload_n 0, 1) := by decide +kernel
theorem dX4_look_26 : decode cX4_look 26 = .ok (.getfield 24, 3) := by decide +kernel
theorem dX4_look_29 : decode cX4_look 29 = .ok (.if_icmp .ge 32, 3) := by decide +kernel
theorem dX4_look_32 : decode cX4_look 32 = .ok (.aload_n 0, 1) := by decide +kernel
theorem dX4_look_33 : decode cX4_look 33 = .ok (.getfield 9, 3) := by decide +kernel
theorem dX4_look_36 : decode cX4_look 36 = .ok (.iload_n 3, 1) := by decide +kernel
theorem dX4_look_37 : decode cX4_look 37 = .ok (.iaload, 1) := by decide +kernel
theorem dX4_look_38 : decode cX4_look 38 = .ok (.iload_n 2, 1) := by decide +kernel
theorem dX4_look_39 : decode cX4_look 39 = .ok (.iconst (-1), 1) := by decide +kernel
theorem dX4_look_40 : decode cX4_look 40 = .ok (.ixor, 1) := by decide +kernel
theorem dX4_look_41 : decode cX4_look 41 = .ok (.iand, 1) := by decide +kernel
theorem dX4_look_42 : decode cX4_look 42 = .ok (.invokestatic 60, 3) := by decide +kernel
theorem dX4_look_45 : decode cX4_look 45 = .ok (.aload_n 0, 1) := by decide +kernel
theorem dX4_look_46 : decode cX4_look 46 = .ok (.getfield 15, 3) := by decide +kernel
theorem dX4_look_49 : decode cX4_look 49 = .ok (.iload_n 3, 1) := by decide +kernel
theorem dX4_look_50 : decode cX4_look 50 = .ok (.iaload, 1) := by decide +kernel
theorem dX4_look_51 : decode cX4_look 51 = .ok (.if_icmp .eq 4, 3) := by decide +kernel
theorem dX4_look_54 : decode cX4_look 54 = .ok (.return_, 1) := by decide +kernel
theorem dX4_look_55 : decode cX4_look 55 = .ok (.iinc 3 1, 3) := by decide +kernel
theorem dX4_look_58 : decode cX4_look 58 = .ok (.goto (-34), 3) := by decide +kernel
theorem dX4_look_61 : decode cX4_look 61 = .ok (.aload_n 0, 1) := by decide +kernel
theorem dX4_look_62 : decode cX4_look 62 = .ok (.getfield 37, 3) := by decide +kernel
theorem dX4_look_65 : decode cX4_look 65 = .ok (.ifCond .ne 8, 3) := by decide +kernel
theorem dX4_look_68 : decode cX4_look 68 = .ok (.aload_n 0, 1) := by decide +kernel
theorem dX4_look_69 : decode cX4_look 69 = .ok (.iload_n 1, 1) := by decide +kernel
theorem dX4_look_70 : decode cX4_look 70 = .ok (.putfield 40, 3) := by decide +kernel
theorem dX4_look_73 : decode cX4_look 73 = .ok (.aload_n 0, 1) := by decide +kernel
theorem dX4_look_74 : decode cX4_look 74 = .ok (.dup, 1) := by decide +kernel
theorem dX4_look_75 : decode cX4_look 75 = .ok (.getfield 37, 3) := by decide +kernel
theorem dX4_look_78 : decode cX4_look 78 = .ok (.iconst 1, 1) := by decide +kernel
theorem dX4_look_79 : decode cX4_look 79 = .ok (.iadd, 1) := by decide +kernel
theorem dX4_look_80 : decode cX4_look 80 = .ok (.putfield 37, 3) := by decide +kernel
theorem dX4_look_83 : decode cX4_look 83 = .ok (.aload_n 0, 1) := by decide +kernel
theorem dX4_look_84 : decode cX4_look 84 = .ok (.dup, 1) := by decide +kernel
theorem dX4_look_85 : decode cX4_look 85 = .ok (.getfield 43, 3) := by decide +kernel
theorem dX4_look_88 : decode cX4_look 88 = .ok (.iload_n 1, 1) := by decide +kernel
theorem dX4_look_89 : decode cX4_look 89 = .ok (.iand, 1) := by decide +kernel
theorem dX4_look_90 : decode cX4_look 90 = .ok (.putfield 43, 3) := by decide +kernel
theorem dX4_look_93 : decode cX4_look 93 = .ok (.return_, 1) := by decide +kernel
theorem dX5_init_0 : decode cX5_init 0 = .ok (.aload_n 0, 1) := by decide +kernel
theorem dX5_init_1 : decode cX5_init 1 = .ok (.invokespecial 1, 3) := by decide +kernel
theorem dX5_init_4 : decode cX5_init 4 = .ok (.aload_n 0, 1) := by decide +kernel
theorem dX5_init_5 : decode cX5_init 5 = .ok (.iload_n 1, 1) := by decide +kernel
theorem dX5_init_6 : decode cX5_init 6 = .ok (.putfield 7, 3) := by decide +kernel
theorem dX5_init_9 : decode cX5_init 9 = .ok (.aload_n 0, 1) := by decide +kernel
theorem dX5_init_10 : decode cX5_init 10 = .ok (.iload_n 2, 1) := by decide +kernel
theorem dX5_init_11 : decode cX5_init 11 = .ok (.newarray .int, 2) := by decide +kernel
theorem dX5_init_13 : decode cX5_init 13 = .ok (.putfield 13, 3) := by decide +kernel
theorem dX5_init_16 : decode cX5_init 16 = .ok (.return_, 1) := by decide +kernel
theorem dX5_hasCell_0 : decode cX5_hasCell 0 = .ok (.iload_n 1, 1) := by decide +kernel
theorem dX5_hasCell_1 : decode cX5_hasCell 1 = .ok (.ifCond .lt 16, 3) := by decide +kernel
theorem dX5_hasCell_4 : decode cX5_hasCell 4 = .ok (.iload_n 1, 1) := by decide +kernel
theorem dX5_hasCell_5 : decode cX5_hasCell 5 = .ok (.aload_n 0, 1) := by decide +kernel
theorem dX5_hasCell_6 : decode cX5_hasCell 6 = .ok (.getfield 13, 3) := by decide +kernel
theorem dX5_hasCell_9 : decode cX5_hasCell 9 = .ok (.arraylength, 1) := by decide +kernel
theorem dX5_hasCell_10 : decode cX5_hasCell 10 = .ok (.if_icmp .ge 7, 3) := by decide +kernel
theorem dX5_hasCell_13 : decode cX5_hasCell 13 = .ok (.iconst 1, 1) := by decide +kernel
theorem dX5_hasCell_14 : decode cX5_hasCell 14 = .ok (.goto 4, 3) := by decide +kernel
theorem dX5_hasCell_17 : decode cX5_hasCell 17 = .ok (.iconst 0, 1) := by decide +kernel
theorem dX5_hasCell_18 : decode cX5_hasCell 18 = .ok (.ireturn, 1) := by decide +kernel
theorem dX5_put_0 : decode cX5_put 0 = .ok (.aload_n 0, 1) := by decide +kernel
theorem dX5_put_1 : decode cX5_put 1 = .ok (.iload_n 1, 1) := by decide +kernel
theorem dX5_put_2 : decode cX5_put 2 = .ok (.invokevirtual 17, 3) := by decide +kernel
theorem dX5_put_5 : decode cX5_put 5 = .ok (.ifCond .ne 4, 3) := by decide +kernel
theorem dX5_put_8 : decode cX5_put 8 = .ok (.return_, 1) := by decide +kernel
theorem dX5_put_9 : decode cX5_put 9 = .ok (.aload_n 0, 1) := by decide +kernel
theorem dX5_put_10 : decode cX5_put 10 = .ok (.getfield 7, 3) := by decide +kernel
theorem dX5_put_13 : decode cX5_put 13 = .ok (.ifCond .ne 14, 3) := by decide +kernel
theorem dX5_put_16 : decode cX5_put 16 = .ok (.aload_n 0, 1) := by decide +kernel
theorem dX5_put_17 : decode cX5_put 17 = .ok (.getfield 13, 3) := by decide +kernel
theorem dX5_put_20 : decode cX5_put 20 = .ok (.iload_n 1, 1) := by decide +kernel
theorem dX5_put_21 : decode cX5_put 21 = .ok (.iload_n 2, 1) := by decide +kernel
theorem dX5_put_22 : decode cX5_put 22 = .ok (.i2b, 1) := by decide +kernel
theorem dX5_put_23 : decode cX5_put 23 = .ok (.iastore, 1) := by decide +kernel
theorem dX5_put_24 : decode cX5_put 24 = .ok (.goto 29, 3) := by decide +kernel
theorem dX5_put_27 : decode cX5_put 27 = .ok (.aload_n 0, 1) := by decide +kernel
theorem dX5_put_28 : decode cX5_put 28 = .ok (.getfield 7, 3) := by decide +kernel
theorem dX5_put_31 : decode cX5_put 31 = .ok (.iconst 1, 1) := by decide +kernel
theorem dX5_put_32 : decode cX5_put 32 = .ok (.if_icmp .ne 14, 3) := by decide +kernel
theorem dX5_put_35 : decode cX5_put 35 = .ok (.aload_n 0, 1) := by decide +kernel
theorem dX5_put_36 : decode cX5_put 36 = .ok (.getfield 13, 3) := by decide +kernel
theorem dX5_put_39 : decode cX5_put 39 = .ok (.iload_n 1, 1) := by decide +kernel
theorem dX5_put_40 : decode cX5_put 40 = .ok (.iload_n 2, 1) := by decide +kernel
theorem dX5_put_41 : decode cX5_put 41 = .ok (.i2s, 1) := by decide +kernel
theorem dX5_put_42 : decode cX5_put 42 = .ok (.iastore, 1) := by decide +kernel
theorem dX5_put_43 : decode cX5_put 43 = .ok (.goto 10, 3) := by decide +kernel
theorem dX5_put_46 : decode cX5_put 46 = .ok (.aload_n 0, 1) := by decide +kernel
theorem dX5_put_47 : decode cX5_put 47 = .ok (.getfield 13, 3) := by decide +kernel
theorem dX5_put_50 : decode cX5_put 50 = .ok (.iload_n 1, 1) := by decide +kernel
theorem dX5_put_51 : decode cX5_put 51 = .ok (.iload_n 2, 1) := by decide +kernel
theorem dX5_put_52 : decode cX5_put 52 = .ok (.iastore, 1) := by decide +kernel
theorem dX5_put_53 : decode cX5_put 53 = .ok (.return_, 1) := by decide +kernel
theorem dX6_init_0 : decode cX6_init 0 = .ok (.aload_n 0, 1) := by decide +kernel
theorem dX6_init_1 : decode cX6_init 1 = .ok (.invokespecial 3, 3) := by decide +kernel
theorem dX6_init_4 : decode cX6_init 4 = .ok (.aload_n 0, 1) := by decide +kernel
theorem dX6_init_5 : decode cX6_init 5 = .ok (.bipush 31, 2) := by decide +kernel
theorem dX6_init_7 : decode cX6_init 7 = .ok (.newarray .int, 2) := by decide +kernel
theorem dX6_init_9 : decode cX6_init 9 = .ok (.putfield 9, 3) := by decide +kernel
theorem dX6_init_12 : decode cX6_init 12 = .ok (.aload_n 0, 1) := by decide +kernel
theorem dX6_init_13 : decode cX6_init 13 = .ok (.iconst 4, 1) := by decide +kernel
theorem dX6_init_14 : decode cX6_init 14 = .ok (.newarray .int, 2) := by decide +kernel
theorem dX6_init_16 : decode cX6_init 16 = .ok (.putfield 15, 3) := by decide +kernel
theorem dX6_init_19 : decode cX6_init 19 = .ok (.return_, 1) := by decide +kernel
theorem dX6_renew_0 : decode cX6_renew 0 = .ok (.aload_n 0, 1) := by decide +kernel
theorem dX6_renew_1 : decode cX6_renew 1 = .ok (.iload_n 1, 1) := by decide +kernel
theorem dX6_renew_2 : decode cX6_renew 2 = .ok (.putfield 18, 3) := by decide +kernel
theorem dX6_renew_5 : decode cX6_renew 5 = .ok (.aload_n 0, 1) := by decide +kernel
theorem dX6_renew_6 : decode cX6_renew 6 = .ok (.bipush 14, 2) := by decide +kernel
theorem dX6_renew_8 : decode cX6_renew 8 = .ok (.putfield 22, 3) := by decide +kernel
theorem dX6_renew_11 : decode cX6_renew 11 = .ok (.aload_n 0, 1) := by decide +kernel
theorem dX6_renew_12 : decode cX6_renew 12 = .ok (.getfield 9, 3) := by decide +kernel
theorem dX6_renew_15 : decode cX6_renew 15 = .ok (.iconst 1, 1) := by decide +kernel
theorem dX6_renew_16 : decode cX6_renew 16 = .ok (.invokestatic 25, 3) := by decide +kernel
theorem dX6_renew_19 : decode cX6_renew 19 = .ok (.aload_n 0, 1) := by decide +kernel
theorem dX6_renew_20 : decode cX6_renew 20 = .ok (.getfield 15, 3) := by decide +kernel
theorem dX6_renew_23 : decode cX6_renew 23 = .ok (.bipush (-4), 2) := by decide +kernel
theorem dX6_renew_25 : decode cX6_renew 25 = .ok (.invokestatic 25, 3) := by decide +kernel
theorem dX6_renew_28 : decode cX6_renew 28 = .ok (.return_, 1) := by decide +kernel
theorem dX6_becomes_0 : decode cX6_becomes 0 = .ok (.aload_n 0, 1) := by decide +kernel
theorem dX6_becomes_1 : decode cX6_becomes 1 = .ok (.aload_n 1, 1) := by decide +kernel
theorem dX6_becomes_2 : decode cX6_becomes 2 = .ok (.getfield 18, 3) := by decide +kernel
theorem dX6_becomes_5 : decode cX6_becomes 5 = .ok (.putfield 18, 3) := by decide +kernel
theorem dX6_becomes_8 : decode cX6_becomes 8 = .ok (.aload_n 0, 1) := by decide +kernel
theorem dX6_becomes_9 : decode cX6_becomes 9 = .ok (.aload_n 1, 1) := by decide +kernel
theorem dX6_becomes_10 : decode cX6_becomes 10 = .ok (.getfield 22, 3) := by decide +kernel
theorem dX6_becomes_13 : decode cX6_becomes 13 = .ok (.putfield 22, 3) := by decide +kernel
theorem dX6_becomes_16 : decode cX6_becomes 16 = .ok (.aload_n 1, 1) := by decide +kernel
theorem dX6_becomes_17 : decode cX6_becomes 17 = .ok (.getfield 9, 3) := by decide +kernel
theorem dX6_becomes_20 : decode cX6_becomes 20 = .ok (.iconst 0, 1) := by decide +kernel
theorem dX6_becomes_21 : decode cX6_becomes 21 = .ok (.aload_n 0, 1) := by decide +kernel
theorem dX6_becomes_22 : decode cX6_becomes 22 = .ok (.getfield 9, 3) := by decide +kernel
theorem dX6_becomes_25 : decode cX6_becomes 25 = .ok (.iconst 0, 1) := by decide +kernel
theorem dX6_becomes_26 : decode cX6_becomes 26 = .ok (.bipush 31, 2) := by decide +kernel
theorem dX6_becomes_28 : decode cX6_becomes 28 = .ok (.invokestatic 31, 3) := by decide +kernel
theorem dX6_becomes_31 : decode cX6_becomes 31 = .ok (.aload_n 1, 1) := by decide +kernel
theorem dX6_becomes_32 : decode cX6_becomes 32 = .ok (.getfield 15, 3) := by decide +kernel
theorem dX6_becomes_35 : decode cX6_becomes 35 = .ok (.iconst 0, 1) := by decide +kernel
theorem dX6_becomes_36 : decode cX6_becomes 36 = .ok (.aload_n 0, 1) := by decide +kernel
theorem dX6_becomes_37 : decode cX6_becomes 37 = .ok (.getfield 15, 3) := by decide +kernel
theorem dX6_becomes_40 : decode cX6_becomes 40 = .ok (.iconst 0, 1) := by decide +kernel
theorem dX6_becomes_41 : decode cX6_becomes 41 = .ok (.iconst 4, 1) := by decide +kernel
theorem dX6_becomes_42 : decode cX6_becomes 42 = .ok (.invokestatic 31, 3) := by decide +kernel
theorem dX6_becomes_45 : decode cX6_becomes 45 = .ok (.return_, 1) := by decide +kernel
theorem dX6_sizesSeen_0 : decode cX6_sizesSeen 0 = .ok (.iconst 0, 1) := by decide +kernel
theorem dX6_sizesSeen_1 : decode cX6_sizesSeen 1 = .ok (.istore_n 1, 1) := by decide +kernel
theorem dX6_sizesSeen_2 : decode cX6_sizesSeen 2 = .ok (.iconst 1, 1) := by decide +kernel
theorem dX6_sizesSeen_3 : decode cX6_sizesSeen 3 = .ok (.istore_n 2, 1) := by decide +kernel
theorem dX6_sizesSeen_4 : decode cX6_sizesSeen 4 = .ok (.iload_n 2, 1) := by decide +kernel
theorem dX6_sizesSeen_5 : decode cX6_sizesSeen 5 = .ok (.iconst 3, 1) := by decide +kernel
theorem dX6_sizesSeen_6 : decode cX6_sizesSeen 6 = .ok (.if_icmp .gt 23, 3) := by decide +kernel
theorem dX6_sizesSeen_9 : decode cX6_sizesSeen 9 = .ok (.aload_n 0, 1) := by decide +kernel
theorem dX6_sizesSeen_10 : decode cX6_sizesSeen 10 = .ok (.getfield 15, 3) := by decide +kernel
theorem dX6_sizesSeen_13 : decode cX6_sizesSeen 13 = .ok (.iload_n 2, 1) := by decide +kernel
theorem dX6_sizesSeen_14 : decode cX6_sizesSeen 14 = .ok (.iaload, 1) := by decide +kernel
theorem dX6_sizesSeen_15 : decode cX6_sizesSeen 15 = .ok (.bipush (-4), 2) := by decide +kernel
theorem dX6_sizesSeen_17 : decode cX6_sizesSeen 17 = .ok (.if_icmp .eq 6, 3) := by decide +kernel
theorem dX6_sizesSeen_20 : decode cX6_sizesSeen 20 = .ok (.iinc 1 1, 3) := by decide +kernel
theorem dX6_sizesSeen_23 : decode cX6_sizesSeen 23 = .ok (.iinc 2 1, 3) := by decide +kernel
theorem dX6_sizesSeen_26 : decode cX6_sizesSeen 26 = .ok (.goto (-22), 3) := by decide +kernel
theorem dX6_sizesSeen_29 : decode cX6_sizesSeen 29 = .ok (.iload_n 1, 1) := by decide +kernel
theorem dX6_sizesSeen_30 : decode cX6_sizesSeen 30 = .ok (.ireturn, 1) := by decide +kernel
theorem dX6_costsLying_0 : decode cX6_costsLying 0 = .ok (.iconst 0, 1) := by decide +kernel
theorem dX6_costsLying_1 : decode cX6_costsLying 1 = .ok (.istore_n 1, 1) := by decide +kernel
theorem dX6_costsLying_2 : decode cX6_costsLying 2 = .ok (.iconst 0, 1) := by decide +kernel
theorem dX6_costsLying_3 : decode cX6_costsLying 3 = .ok (.istore_n 2, 1) := by decide +kernel
theorem dX6_costsLying_4 : decode cX6_costsLying 4 = .ok (.iload_n 2, 1) := by decide +kernel
theorem dX6_costsLying_5 : decode cX6_costsLying 5 = .ok (.bipush 31, 2) := by decide +kernel
theorem dX6_costsLying_7 : decode cX6_costsLying 7 = .ok (.if_icmp .ge 29, 3) := by decide +kernel
theorem dX6_costsLying_10 : decode cX6_costsLying 10 = .ok (.aload_n 0, 1) := by decide +kernel
theorem dX6_costsLying_11 : decode cX6_costsLying 11 = .ok (.getfield 18, 3) := by decide +kernel
theorem dX6_costsLying_14 : decode cX6_costsLying 14 = .ok (.iload_n 2, 1) := by decide +kernel
theorem dX6_costsLying_15 : decode cX6_costsLying 15 = .ok (.ishr, 1) := by decide +kernel
theorem dX6_costsLying_16 : decode cX6_costsLying 16 = .ok (.iconst 1, 1) := by decide +kernel
theorem dX6_costsLying_17 : decode cX6_costsLying 17 = .ok (.iand, 1) := by decide +kernel
theorem dX6_costsLying_18 : decode cX6_costsLying 18 = .ok (.ifCond .eq 12, 3) := by decide +kernel
theorem dX6_costsLying_21 : decode cX6_costsLying 21 = .ok (.iload_n 1, 1) := by decide +kernel
theorem dX6_costsLying_22 : decode cX6_costsLying 22 = .ok (.aload_n 0, 1) := by decide +kernel
theorem dX6_costsLying_23 : decode cX6_costsLying 23 = .ok (.getfield 9, 3) := by decide +kernel
theorem dX6_costsLying_26 : decode cX6_costsLying 26 = .ok (.iload_n 2, 1) := by decide +kernel
theorem dX6_costsLying_27 : decode cX6_costsLying 27 = .ok (.iaload, 1) := by decide +kernel
theorem dX6_costsLying_28 : decode cX6_costsLying 28 = .ok (.iadd, 1) := by decide +kernel
theorem dX6_costsLying_29 : decode cX6_costsLying 29 = .ok (.istore_n 1, 1) := by decide +kernel
theorem dX6_costsLying_30 : decode cX6_costsLying 30 = .ok (.iinc 2 1, 3) := by decide +kernel
theorem dX6_costsLying_33 : decode cX6_costsLying 33 = .ok (.goto (-29), 3) := by decide +kernel
theorem dX6_costsLying_36 : decode cX6_costsLying 36 = .ok (.iload_n 1, 1) := by decide +kernel
theorem dX6_costsLying_37 : decode cX6_costsLying 37 = .ok (.ireturn, 1) := by decide +kernel
theorem dX7_init_0 : decode cX7_init 0 = .ok (.aload_n 0, 1) := by decide +kernel
theorem dX7_init_1 : decode cX7_init 1 = .ok (.invokespecial 1, 3) := by decide +kernel
theorem dX7_init_4 : decode cX7_init 4 = .ok (.aload_n 0, 1) := by decide +kernel
theorem dX7_init_5 : decode cX7_init 5 = .ok (.sipush 320, 3) := by decide +kernel
theorem dX7_init_8 : decode cX7_init 8 = .ok (.newarray .byte, 2) := by decide +kernel
theorem dX7_init_10 : decode cX7_init 10 = .ok (.putfield 9, 3) := by decide +kernel
theorem dX7_init_13 : decode cX7_init 13 = .ok (.return_, 1) := by decide +kernel
theorem dX7_append_0 : decode cX7_append 0 = .ok (.aload_n 0, 1) := by decide +kernel
theorem dX7_append_1 : decode cX7_append 1 = .ok (.getfield 13, 3) := by decide +kernel
theorem dX7_append_4 : decode cX7_append 4 = .ok (.bipush 8, 2) := by decide +kernel
theorem dX7_append_6 : decode cX7_append 6 = .ok (.iadd, 1) := by decide +kernel
theorem dX7_append_7 : decode cX7_append 7 = .ok (.sipush 320, 3) := by decide +kernel
theorem dX7_append_10 : decode cX7_append 10 = .ok (.if_icmp .le 5, 3) := by decide +kernel
theorem dX7_append_13 : decode cX7_append 13 = .ok (.iconst 0, 1) := by decide +kernel
theorem dX7_append_14 : decode cX7_append 14 = .ok (.ireturn, 1) := by decide +kernel
theorem dX7_append_15 : decode cX7_append 15 = .ok (.iconst 0, 1) := by decide +kernel
theorem dX7_append_16 : decode cX7_append 16 = .ok (.istore_n 3, 1) := by decide +kernel
theorem dX7_append_17 : decode cX7_append 17 = .ok (.iload_n 3, 1) := by decide +kernel
theorem dX7_append_18 : decode cX7_append 18 = .ok (.bipush 8, 2) := by decide +kernel
theorem dX7_append_20 : decode cX7_append 20 = .ok (.if_icmp .ge 31, 3) := by decide +kernel
theorem dX7_append_23 : decode cX7_append 23 = .ok (.aload_n 0, 1) := by decide +kernel
theorem dX7_append_24 : decode cX7_append 24 = .ok (.getfield 9, 3) := by decide +kernel
theorem dX7_append_27 : decode cX7_append 27 = .ok (.aload_n 0, 1) := by decide +kernel
theorem dX7_append_28 : decode cX7_append 28 = .ok (.getfield 13, 3) := by decide +kernel
theorem dX7_append_31 : decode cX7_append 31 = .ok (.iload_n 3, 1) := by decide +kernel
theorem dX7_append_32 : decode cX7_append 32 = .ok (.iadd, 1) := by decide +kernel
theorem dX7_append_33 : decode cX7_append 33 = .ok (.lload_n 1, 1) := by decide +kernel
theorem dX7_append_34 : decode cX7_append 34 = .ok (.bipush 56, 2) := by decide +kernel
theorem dX7_append_36 : decode cX7_append 36 = .ok (.bipush 8, 2) := by decide +kernel
theorem dX7_append_38 : decode cX7_append 38 = .ok (.iload_n 3, 1) := by decide +kernel
theorem dX7_append_39 : decode cX7_append 39 = .ok (.imul, 1) := by decide +kernel
theorem dX7_append_40 : decode cX7_append 40 = .ok (.isub, 1) := by decide +kernel
theorem dX7_append_41 : decode cX7_append 41 = .ok (.lushr, 1) := by decide +kernel
theorem dX7_append_42 : decode cX7_append 42 = .ok (.l2i, 1) := by decide +kernel
theorem dX7_append_43 : decode cX7_append 43 = .ok (.i2b, 1) := by decide +kernel
theorem dX7_append_44 : decode cX7_append 44 = .ok (.bastore, 1) := by decide +kernel
theorem dX7_append_45 : decode cX7_append 45 = .ok (.iinc 3 1, 3) := by decide +kernel
theorem dX7_append_48 : decode cX7_append 48 = .ok (.goto (-31), 3) := by decide +kernel
theorem dX7_append_51 : decode cX7_append 51 = .ok (.aload_n 0, 1) := by decide +kernel
theorem dX7_append_52 : decode cX7_append 52 = .ok (.dup, 1) := by decide +kernel
theorem dX7_append_53 : decode cX7_append 53 = .ok (.getfield 13, 3) := by decide +kernel
theorem dX7_append_56 : decode cX7_append 56 = .ok (.bipush 8, 2) := by decide +kernel
theorem dX7_append_58 : decode cX7_append 58 = .ok (.iadd, 1) := by decide +kernel
theorem dX7_append_59 : decode cX7_append 59 = .ok (.putfield 13, 3) := by decide +kernel
theorem dX7_append_62 : decode cX7_append 62 = .ok (.iconst 1, 1) := by decide +kernel
theorem dX7_append_63 : decode cX7_append 63 = .ok (.ireturn, 1) := by decide +kernel
theorem dX7_rewind_0 : decode cX7_rewind 0 = .ok (.aload_n 0, 1) := by decide +kernel
theorem dX7_rewind_1 : decode cX7_rewind 1 = .ok (.iconst 0, 1) := by decide +kernel
theorem dX7_rewind_2 : decode cX7_rewind 2 = .ok (.putfield 17, 3) := by decide +kernel
theorem dX7_rewind_5 : decode cX7_rewind 5 = .ok (.return_, 1) := by decide +kernel
theorem dX7_step_0 : decode cX7_step 0 = .ok (.aload_n 0, 1) := by decide +kernel
theorem dX7_step_1 : decode cX7_step 1 = .ok (.getfield 17, 3) := by decide +kernel
theorem dX7_step_4 : decode cX7_step 4 = .ok (.aload_n 0, 1) := by decide +kernel
theorem dX7_step_5 : decode cX7_step 5 = .ok (.getfield 13, 3) := by decide +kernel
theorem dX7_step_8 : decode cX7_step 8 = .ok (.if_icmp .ge 30, 3) := by decide +kernel
theorem dX7_step_11 : decode cX7_step 11 = .ok (.aload_n 0, 1) := by decide +kernel
theorem dX7_step_12 : decode cX7_step 12 = .ok (.getfield 9, 3) := by decide +kernel
theorem dX7_step_15 : decode cX7_step 15 = .ok (.aload_n 0, 1) := by decide +kernel
theorem dX7_step_16 : decode cX7_step 16 = .ok (.getfield 17, 3) := by decide +kernel
theorem dX7_step_19 : decode cX7_step 19 = .ok (.baload, 1) := by decide +kernel
theorem dX7_step_20 : decode cX7_step 20 = .ok (.bipush 32, 2) := by decide +kernel
theorem dX7_step_22 : decode cX7_step 22 = .ok (.if_icmp .ne 16, 3) := by decide +kernel
theorem dX7_step_25 : decode cX7_step 25 = .ok (.aload_n 0, 1) := by decide +kernel
theorem dX7_step_26 : decode cX7_step 26 = .ok (.dup, 1) := by decide +kernel
theorem dX7_step_27 : decode cX7_step 27 = .ok (.getfield 17, 3) := by decide +kernel
theorem dX7_step_30 : decode cX7_step 30 = .ok (.iconst 1, 1) := by decide +kernel
theorem dX7_step_31 : decode cX7_step 31 = .ok (.iadd, 1) := by decide +kernel
theorem dX7_step_32 : decode cX7_step 32 = .ok (.putfield 17, 3) := by decide +kernel
theorem dX7_step_35 : decode cX7_step 35 = .ok (.goto (-35), 3) := by decide +kernel
theorem dX7_step_38 : decode cX7_step 38 = .ok (.aload_n 0, 1) := by decide +kernel
theorem dX7_step_39 : decode cX7_step 39 = .ok (.aload_n 0, 1) := by decide +kernel
theorem dX7_step_40 : decode cX7_step 40 = .ok (.getfield 17, 3) := by decide +kernel
theorem dX7_step_43 : decode cX7_step 43 = .ok (.putfield 20, 3) := by decide +kernel
theorem dX7_step_46 : decode cX7_step 46 = .ok (.aload_n 0, 1) := by decide +kernel
theorem dX7_step_47 : decode cX7_step 47 = .ok (.getfield 17, 3) := by decide +kernel
theorem dX7_step_50 : decode cX7_step 50 = .ok (.aload_n 0, 1) := by decide +kernel
theorem dX7_step_51 : decode cX7_step 51 = .ok (.getfield 13, 3) := by decide +kernel
theorem dX7_step_54 : decode cX7_step 54 = .ok (.if_icmp .lt 11, 3) := by decide +kernel
theorem dX7_step_57 : decode cX7_step 57 = .ok (.aload_n 0, 1) := by decide +kernel
theorem dX7_step_58 : decode cX7_step 58 = .ok (.iconst 0, 1) := by decide +kernel
theorem dX7_step_59 : decode cX7_step 59 = .ok (.putfield 23, 3) := by decide +kernel
theorem dX7_step_62 : decode cX7_step 62 = .ok (.goto 127, 3) := by decide +kernel
theorem dX7_step_65 : decode cX7_step 65 = .ok (.aload_n 0, 1) := by decide +kernel
theorem dX7_step_66 : decode cX7_step 66 = .ok (.getfield 9, 3) := by decide +kernel
theorem dX7_step_69 : decode cX7_step 69 = .ok (.aload_n 0, 1) := by decide +kernel
theorem dX7_step_70 : decode cX7_step 70 = .ok (.getfield 17, 3) := by decide +kernel
theorem dX7_step_73 : decode cX7_step 73 = .ok (.baload, 1) := by decide +kernel
theorem dX7_step_74 : decode cX7_step 74 = .ok (.bipush 59, 2) := by decide +kernel
theorem dX7_step_76 : decode cX7_step 76 = .ok (.if_icmp .ne 21, 3) := by decide +kernel
theorem dX7_step_79 : decode cX7_step 79 = .ok (.aload_n 0, 1) := by decide +kernel
theorem dX7_step_80 : decode cX7_step 80 = .ok (.iconst 3, 1) := by decide +kernel
theorem dX7_step_81 : decode cX7_step 81 = .ok (.putfield 23, 3) := by decide +kernel
theorem dX7_step_84 : decode cX7_step 84 = .ok (.aload_n 0, 1) := by decide +kernel
theorem dX7_step_85 : decode cX7_step 85 = .ok (.dup, 1) := by decide +kernel
theorem dX7_step_86 : decode cX7_step 86 = .ok (.getfield 17, 3) := by decide +kernel
theorem dX7_step_89 : decode cX7_step 89 = .ok (.iconst 1, 1) := by decide +kernel
theorem dX7_step_90 : decode cX7_step 90 = .ok (.iadd, 1) := by decide +kernel
theorem dX7_step_91 : decode cX7_step 91 = .ok (.putfield 17, 3) := by decide +kernel
theorem dX7_step_94 : decode cX7_step 94 = .ok (.goto 95, 3) := by decide +kernel
theorem dX7_step_97 : decode cX7_step 97 = .ok (.aload_n 0, 1) := by decide +kernel
theorem dX7_step_98 : decode cX7_step 98 = .ok (.getfield 9, 3) := by decide +kernel
theorem dX7_step_101 : decode cX7_step 101 = .ok (.aload_n 0, 1) := by decide +kernel
theorem dX7_step_102 : decode cX7_step 102 = .ok (.getfield 17, 3) := by decide +kernel
theorem dX7_step_105 : decode cX7_step 105 = .ok (.baload, 1) := by decide +kernel
theorem dX7_step_106 : decode cX7_step 106 = .ok (.bipush 97, 2) := by decide +kernel
theorem dX7_step_108 : decode cX7_step 108 = .ok (.if_icmp .lt 33, 3) := by decide +kernel
theorem dX7_step_111 : decode cX7_step 111 = .ok (.aload_n 0, 1) := by decide +kernel
theorem dX7_step_112 : decode cX7_step 112 = .ok (.getfield 9, 3) := by decide +kernel
theorem dX7_step_115 : decode cX7_step 115 = .ok (.aload_n 0, 1) := by decide +kernel
theorem dX7_step_116 : decode cX7_step 116 = .ok (.getfield 17, 3) := by decide +kernel
theorem dX7_step_119 : decode cX7_step 119 = .ok (.baload, 1) := by decide +kernel
theorem dX7_step_120 : decode cX7_step 120 = .ok (.bipush 122, 2) := by decide +kernel
theorem dX7_step_122 : decode cX7_step 122 = .ok (.if_icmp .gt 19, 3) := by decide +kernel
theorem dX7_step_125 : decode cX7_step 125 = .ok (.aload_n 0, 1) := by decide +kernel
theorem dX7_step_126 : decode cX7_step 126 = .ok (.iconst 1, 1) := by decide +kernel
theorem dX7_step_127 : decode cX7_step 127 = .ok (.putfield 23, 3) := by decide +kernel
theorem dX7_step_130 : decode cX7_step 130 = .ok (.aload_n 0, 1) := by decide +kernel
theorem dX7_step_131 : decode cX7_step 131 = .ok (.bipush 97, 2) := by decide +kernel
theorem dX7_step_133 : decode cX7_step 133 = .ok (.bipush 122, 2) := by decide +kernel
theorem dX7_step_135 : decode cX7_step 135 = .ok (.invokevirtual 26, 3) := by decide +kernel
theorem dX7_step_138 : decode cX7_step 138 = .ok (.goto 51, 3) := by decide +kernel
theorem dX7_step_141 : decode cX7_step 141 = .ok (.aload_n 0, 1) := by decide +kernel
theorem dX7_step_142 : decode cX7_step 142 = .ok (.getfield 9, 3) := by decide +kernel
theorem dX7_step_145 : decode cX7_step 145 = .ok (.aload_n 0, 1) := by decide +kernel
theorem dX7_step_146 : decode cX7_step 146 = .ok (.getfield 17, 3) := by decide +kernel
theorem dX7_step_149 : decode cX7_step 149 = .ok (.baload, 1) := by decide +kernel
theorem dX7_step_150 : decode cX7_step 150 = .ok (.bipush 48, 2) := by decide +kernel
theorem dX7_step_152 : decode cX7_step 152 = .ok (.if_icmp .lt 32, 3) := by decide +kernel
theorem dX7_step_155 : decode cX7_step 155 = .ok (.aload_n 0, 1) := by decide +kernel
theorem dX7_step_156 : decode cX7_step 156 = .ok (.getfield 9, 3) := by decide +kernel
theorem dX7_step_159 : decode cX7_step 159 = .ok (.aload_n 0, 1) := by decide +kernel
theorem dX7_step_160 : decode cX7_step 160 = .ok (.getfield 17, 3) := by decide +kernel
theorem dX7_step_163 : decode cX7_step 163 = .ok (.baload, 1) := by decide +kernel
theorem dX7_step_164 : decode cX7_step 164 = .ok (.bipush 57, 2) := by decide +kernel
theorem dX7_step_166 : decode cX7_step 166 = .ok (.if_icmp .gt 18, 3) := by decide +kernel
theorem dX7_step_169 : decode cX7_step 169 = .ok (.aload_n 0, 1) := by decide +kernel
theorem dX7_step_170 : decode cX7_step 170 = .ok (.bipush 48, 2) := by decide +kernel
theorem dX7_step_172 : decode cX7_step 172 = .ok (.bipush 57, 2) := by decide +kernel
theorem dX7_step_174 : decode cX7_step 174 = .ok (.invokevirtual 26, 3) := by decide +kernel
theorem dX7_step_177 : decode cX7_step 177 = .ok (.aload_n 0, 1) := by decide +kernel
theorem dX7_step_178 : decode cX7_step 178 = .ok (.invokevirtual 30, 3) := by decide +kernel
theorem dX7_step_181 : decode cX7_step 181 = .ok (.goto 8, 3) := by decide +kernel
theorem dX7_step_184 : decode cX7_step 184 = .ok (.aload_n 0, 1) := by decide +kernel
theorem dX7_step_185 : decode cX7_step 185 = .ok (.iconst 4, 1) := by decide +kernel
theorem dX7_step_186 : decode cX7_step 186 = .ok (.putfield 23, 3) := by decide +kernel
theorem dX7_step_189 : decode cX7_step 189 = .ok (.return_, 1) := by decide +kernel
theorem dX7_pass_0 : decode cX7_pass 0 = .ok (.aload_n 0, 1) := by decide +kernel
theorem dX7_pass_1 : decode cX7_pass 1 = .ok (.getfield 17, 3) := by decide +kernel
theorem dX7_pass_4 : decode cX7_pass 4 = .ok (.aload_n 0, 1) := by decide +kernel
theorem dX7_pass_5 : decode cX7_pass 5 = .ok (.getfield 13, 3) := by decide +kernel
theorem dX7_pass_8 : decode cX7_pass 8 = .ok (.if_icmp .ge 42, 3) := by decide +kernel
theorem dX7_pass_11 : decode cX7_pass 11 = .ok (.aload_n 0, 1) := by decide +kernel
theorem dX7_pass_12 : decode cX7_pass 12 = .ok (.getfield 9, 3) := by decide +kernel
theorem dX7_pass_15 : decode cX7_pass 15 = .ok (.aload_n 0, 1) := by decide +kernel
theorem dX7_pass_16 : decode cX7_pass 16 = .ok (.getfield 17, 3) := by decide +kernel
theorem dX7_pass_19 : decode cX7_pass 19 = .ok (.baload, 1) := by decide +kernel
theorem dX7_pass_20 : decode cX7_pass 20 = .ok (.iload_n 1, 1) := by decide +kernel
theorem dX7_pass_21 : decode cX7_pass 21 = .ok (.if_icmp .lt 29, 3) := by decide +kernel
theorem dX7_pass_24 : decode cX7_pass 24 = .ok (.aload_n 0, 1) := by decide +kernel
theorem dX7_pass_25 : decode cX7_pass 25 = .ok (.getfield 9, 3) := by decide +kernel
theorem dX7_pass_28 : decode cX7_pass 28 = .ok (.aload_n 0, 1) := by decide +kernel
theorem dX7_pass_29 : decode cX7_pass 29 = .ok (.getfield 17, 3) := by decide +kernel
theorem dX7_pass_32 : decode cX7_pass 32 = .ok (.baload, 1) := by decide +kernel
theorem dX7_pass_33 : decode cX7_pass 33 = .ok (.iload_n 2, 1) := by decide +kernel
theorem dX7_pass_34 : decode cX7_pass 34 = .ok (.if_icmp .gt 16, 3) := by decide +kernel
theorem dX7_pass_37 : decode cX7_pass 37 = .ok (.aload_n 0, 1) := by decide +kernel
theorem dX7_pass_38 : decode cX7_pass 38 = .ok (.dup, 1) := by decide +kernel
theorem dX7_pass_39 : decode cX7_pass 39 = .ok (.getfield 17, 3) := by decide +kernel
theorem dX7_pass_42 : decode cX7_pass 42 = .ok (.iconst 1, 1) := by decide +kernel
theorem dX7_pass_43 : decode cX7_pass 43 = .ok (.iadd, 1) := by decide +kernel
theorem dX7_pass_44 : decode cX7_pass 44 = .ok (.putfield 17, 3) := by decide +kernel
theorem dX7_pass_47 : decode cX7_pass 47 = .ok (.goto (-47), 3) := by decide +kernel
theorem dX7_pass_50 : decode cX7_pass 50 = .ok (.return_, 1) := by decide +kernel
theorem dX7_takeNumber_0 : decode cX7_takeNumber 0 = .ok (.aload_n 0, 1) := by decide +kernel
theorem dX7_takeNumber_1 : decode cX7_takeNumber 1 = .ok (.aload_n 0, 1) := by decide +kernel
theorem dX7_takeNumber_2 : decode cX7_takeNumber 2 = .ok (.getfield 17, 3) := by decide +kernel
theorem dX7_takeNumber_5 : decode cX7_takeNumber 5 = .ok (.aload_n 0, 1) := by decide +kernel
theorem dX7_takeNumber_6 : decode cX7_takeNumber 6 = .ok (.getfield 20, 3) := by decide +kernel
theorem dX7_takeNumber_9 : decode cX7_takeNumber 9 = .ok (.isub, 1) := by decide +kernel
theorem dX7_takeNumber_10 : decode cX7_takeNumber 10 = .ok (.iconst 2, 1) := by decide +kernel
theorem dX7_takeNumber_11 : decode cX7_takeNumber 11 = .ok (.if_icmp .le 7, 3) := by decide +kernel
theorem dX7_takeNumber_14 : decode cX7_takeNumber 14 = .ok (.iconst 4, 1) := by decide +kernel
theorem dX7_takeNumber_15 : decode cX7_takeNumber 15 = .ok (.goto 4, 3) := by decide +kernel
theorem dX7_takeNumber_18 : decode cX7_takeNumber 18 = .ok (.iconst 2, 1) := by decide +kernel
theorem dX7_takeNumber_19 : decode cX7_takeNumber 19 = .ok (.putfield 23, 3) := by decide +kernel
theorem dX7_takeNumber_22 : decode cX7_takeNumber 22 = .ok (.aload_n 0, 1) := by decide +kernel
theorem dX7_takeNumber_23 : decode cX7_takeNumber 23 = .ok (.iconst 0, 1) := by decide +kernel
theorem dX7_takeNumber_24 : decode cX7_takeNumber 24 = .ok (.putfield 33, 3) := by decide +kernel
theorem dX7_takeNumber_27 : decode cX7_takeNumber 27 = .ok (.aload_n 0, 1) := by decide +kernel
theorem dX7_takeNumber_28 : decode cX7_takeNumber 28 = .ok (.getfield 20, 3) := by decide +kernel
theorem dX7_takeNumber_31 : decode cX7_takeNumber 31 = .ok (.istore_n 1, 1) := by decide +kernel
theorem dX7_takeNumber_32 : decode cX7_takeNumber 32 = .ok (.iload_n 1, 1) := by decide +kernel
theorem dX7_takeNumber_33 : decode cX7_takeNumber 33 = .ok (.aload_n 0, 1) := by decide +kernel
theorem dX7_takeNumber_34 : decode cX7_takeNumber 34 = .ok (.getfield 17, 3) := by decide +kernel
theorem dX7_takeNumber_37 : decode cX7_takeNumber 37 = .ok (.if_icmp .ge 38, 3) := by decide +kernel
theorem dX7_takeNumber_40 : decode cX7_takeNumber 40 = .ok (.aload_n 0, 1) := by decide +kernel
theorem dX7_takeNumber_41 : decode cX7_takeNumber 41 = .ok (.getfield 23, 3) := by decide +kernel
theorem dX7_takeNumber_44 : decode cX7_takeNumber 44 = .ok (.iconst 2, 1) := by decide +kernel
theorem dX7_takeNumber_45 : decode cX7_takeNumber 45 = .ok (.if_icmp .ne 30, 3) := by decide +kernel
theorem dX7_takeNumber_48 : decode cX7_takeNumber 48 = .ok (.aload_n 0, 1) := by decide +kernel
theorem dX7_takeNumber_49 : decode cX7_takeNumber 49 = .ok (.bipush 10, 2) := by decide +kernel
theorem dX7_takeNumber_51 : decode cX7_takeNumber 51 = .ok (.aload_n 0, 1) := by decide +kernel
theorem dX7_takeNumber_52 : decode cX7_takeNumber 52 = .ok (.getfield 33, 3) := by decide +kernel
theorem dX7_takeNumber_55 : decode cX7_takeNumber 55 = .ok (.imul, 1) := by decide +kernel
theorem dX7_takeNumber_56 : decode cX7_takeNumber 56 = .ok (.aload_n 0, 1) := by decide +kernel
theorem dX7_takeNumber_57 : decode cX7_takeNumber 57 = .ok (.getfield 9, 3) := by decide +kernel
theorem dX7_takeNumber_60 : decode cX7_takeNumber 60 = .ok (.iload_n 1, 1) := by decide +kernel
theorem dX7_takeNumber_61 : decode cX7_takeNumber 61 = .ok (.baload, 1) := by decide +kernel
theorem dX7_takeNumber_62 : decode cX7_takeNumber 62 = .ok (.iadd, 1) := by decide +kernel
theorem dX7_takeNumber_63 : decode cX7_takeNumber 63 = .ok (.bipush 48, 2) := by decide +kernel
theorem dX7_takeNumber_65 : decode cX7_takeNumber 65 = .ok (.isub, 1) := by decide +kernel
theorem dX7_takeNumber_66 : decode cX7_takeNumber 66 = .ok (.putfield 33, 3) := by decide +kernel
theorem dX7_takeNumber_69 : decode cX7_takeNumber 69 = .ok (.iinc 1 1, 3) := by decide +kernel
theorem dX7_takeNumber_72 : decode cX7_takeNumber 72 = .ok (.goto (-40), 3) := by decide +kernel
theorem dX7_takeNumber_75 : decode cX7_takeNumber 75 = .ok (.return_, 1) := by decide +kernel
theorem dX7_says_0 : decode cX7_says 0 = .ok (.aload_n 0, 1) := by decide +kernel
theorem dX7_says_1 : decode cX7_says 1 = .ok (.getfield 23, 3) := by decide +kernel
theorem dX7_says_4 : decode cX7_says 4 = .ok (.iconst 1, 1) := by decide +kernel
theorem dX7_says_5 : decode cX7_says 5 = .ok (.if_icmp .ne 19, 3) := by decide +kernel
theorem dX7_says_8 : decode cX7_says 8 = .ok (.aload_n 0, 1) := by decide +kernel
theorem dX7_says_9 : decode cX7_says 9 = .ok (.getfield 17, 3) := by decide +kernel
theorem dX7_says_12 : decode cX7_says 12 = .ok (.aload_n 0, 1) := by decide +kernel
theorem dX7_says_13 : decode cX7_says 13 = .ok (.getfield 20, 3) := by decide +kernel
theorem dX7_says_16 : decode cX7_says 16 = .ok (.isub, 1) := by decide +kernel
theorem dX7_says_17 : decode cX7_says 17 = .ok (.aload_n 1, 1) := by decide +kernel
theorem dX7_says_18 : decode cX7_says 18 = .ok (.invokevirtual 36, 3) := by decide +kernel
theorem dX7_says_21 : decode cX7_says 21 = .ok (.if_icmp .eq 5, 3) := by decide +kernel
theorem dX7_says_24 : decode cX7_says 24 = .ok (.iconst 0, 1) := by decide +kernel
theorem dX7_says_25 : decode cX7_says 25 = .ok (.ireturn, 1) := by decide +kernel
theorem dX7_says_26 : decode cX7_says 26 = .ok (.aload_n 0, 1) := by decide +kernel
theorem dX7_says_27 : decode cX7_says 27 = .ok (.getfield 20, 3) := by decide +kernel
theorem dX7_says_30 : decode cX7_says 30 = .ok (.istore_n 2, 1) := by decide +kernel
theorem dX7_says_31 : decode cX7_says 31 = .ok (.iload_n 2, 1) := by decide +kernel
theorem dX7_says_32 : decode cX7_says 32 = .ok (.aload_n 0, 1) := by decide +kernel
theorem dX7_says_33 : decode cX7_says 33 = .ok (.getfield 17, 3) := by decide +kernel
theorem dX7_says_36 : decode cX7_says 36 = .ok (.if_icmp .ge 30, 3) := by decide +kernel
theorem dX7_says_39 : decode cX7_says 39 = .ok (.aload_n 0, 1) := by decide +kernel
theorem dX7_says_40 : decode cX7_says 40 = .ok (.getfield 9, 3) := by decide +kernel
theorem dX7_says_43 : decode cX7_says 43 = .ok (.iload_n 2, 1) := by decide +kernel
theorem dX7_says_44 : decode cX7_says 44 = .ok (.baload, 1) := by decide +kernel
theorem dX7_says_45 : decode cX7_says 45 = .ok (.aload_n 1, 1) := by decide +kernel
theorem dX7_says_46 : decode cX7_says 46 = .ok (.iload_n 2, 1) := by decide +kernel
theorem dX7_says_47 : decode cX7_says 47 = .ok (.aload_n 0, 1) := by decide +kernel
theorem dX7_says_48 : decode cX7_says 48 = .ok (.getfield 20, 3) := by decide +kernel
theorem dX7_says_51 : decode cX7_says 51 = .ok (.isub, 1) := by decide +kernel
theorem dX7_says_52 : decode cX7_says 52 = .ok (.invokevirtual 41, 3) := by decide +kernel
theorem dX7_says_55 : decode cX7_says 55 = .ok (.if_icmp .eq 5, 3) := by decide +kernel
theorem dX7_says_58 : decode cX7_says 58 = .ok (.iconst 0, 1) := by decide +kernel
theorem dX7_says_59 : decode cX7_says 59 = .ok (.ireturn, 1) := by decide +kernel
theorem dX7_says_60 : decode cX7_says 60 = .ok (.iinc 2 1, 3) := by decide +kernel
theorem dX7_says_63 : decode cX7_says 63 = .ok (.goto (-32), 3) := by decide +kernel
theorem dX7_says_66 : decode cX7_says 66 = .ok (.iconst 1, 1) := by decide +kernel
theorem dX7_says_67 : decode cX7_says 67 = .ok (.ireturn, 1) := by decide +kernel
theorem dX8_init_0 : decode cX8_init 0 = .ok (.aload_n 0, 1) := by decide +kernel
theorem dX8_init_1 : decode cX8_init 1 = .ok (.invokespecial 3, 3) := by decide +kernel
theorem dX8_init_4 : decode cX8_init 4 = .ok (.aload_n 0, 1) := by decide +kernel
theorem dX8_init_5 : decode cX8_init 5 = .ok (.new 9, 3) := by decide +kernel
theorem dX8_init_8 : decode cX8_init 8 = .ok (.dup, 1) := by decide +kernel
theorem dX8_init_9 : decode cX8_init 9 = .ok (.invokespecial 11, 3) := by decide +kernel
theorem dX8_init_12 : decode cX8_init 12 = .ok (.putfield 12, 3) := by decide +kernel
theorem dX8_init_15 : decode cX8_init 15 = .ok (.aload_n 0, 1) := by decide +kernel
theorem dX8_init_16 : decode cX8_init 16 = .ok (.aload_n 1, 1) := by decide +kernel
theorem dX8_init_17 : decode cX8_init 17 = .ok (.putfield 18, 3) := by decide +kernel
theorem dX8_init_20 : decode cX8_init 20 = .ok (.return_, 1) := by decide +kernel
theorem dX8_tell_0 : decode cX8_tell 0 = .ok (.aload_n 0, 1) := by decide +kernel
theorem dX8_tell_1 : decode cX8_tell 1 = .ok (.invokevirtual 22, 3) := by decide +kernel
theorem dX8_tell_4 : decode cX8_tell 4 = .ok (.iconst 0, 1) := by decide +kernel
theorem dX8_tell_5 : decode cX8_tell 5 = .ok (.istore_n 1, 1) := by decide +kernel
theorem dX8_tell_6 : decode cX8_tell 6 = .ok (.iload_n 1, 1) := by decide +kernel
theorem dX8_tell_7 : decode cX8_tell 7 = .ok (.sipush 320, 3) := by decide +kernel
theorem dX8_tell_10 : decode cX8_tell 10 = .ok (.if_icmp .gt 50, 3) := by decide +kernel
theorem dX8_tell_13 : decode cX8_tell 13 = .ok (.aload_n 0, 1) := by decide +kernel
theorem dX8_tell_14 : decode cX8_tell 14 = .ok (.getfield 18, 3) := by decide +kernel
theorem dX8_tell_17 : decode cX8_tell 17 = .ok (.invokevirtual 27, 3) := by decide +kernel
theorem dX8_tell_20 : decode cX8_tell 20 = .ok (.aload_n 0, 1) := by decide +kernel
theorem dX8_tell_21 : decode cX8_tell 21 = .ok (.getfield 18, 3) := by decide +kernel
theorem dX8_tell_24 : decode cX8_tell 24 = .ok (.getfield 30, 3) := by decide +kernel
theorem dX8_tell_27 : decode cX8_tell 27 = .ok (.ifCond .ne 8, 3) := by decide +kernel
theorem dX8_tell_30 : decode cX8_tell 30 = .ok (.aload_n 0, 1) := by decide +kernel
theorem dX8_tell_31 : decode cX8_tell 31 = .ok (.invokevirtual 34, 3) := by decide +kernel
theorem dX8_tell_34 : decode cX8_tell 34 = .ok (.ireturn, 1) := by decide +kernel
theorem dX8_tell_35 : decode cX8_tell 35 = .ok (.aload_n 0, 1) := by decide +kernel
theorem dX8_tell_36 : decode cX8_tell 36 = .ok (.invokevirtual 38, 3) := by decide +kernel
theorem dX8_tell_39 : decode cX8_tell 39 = .ok (.ifCond .ne 5, 3) := by decide +kernel
theorem dX8_tell_42 : decode cX8_tell 42 = .ok (.iconst 0, 1) := by decide +kernel
theorem dX8_tell_43 : decode cX8_tell 43 = .ok (.ireturn, 1) := by decide +kernel
theorem dX8_tell_44 : decode cX8_tell 44 = .ok (.aload_n 0, 1) := by decide +kernel
theorem dX8_tell_45 : decode cX8_tell 45 = .ok (.dup, 1) := by decide +kernel
theorem dX8_tell_46 : decode cX8_tell 46 = .ok (.getfield 41, 3) := by decide +kernel
theorem dX8_tell_49 : decode cX8_tell 49 = .ok (.iconst 1, 1) := by decide +kernel
theorem dX8_tell_50 : decode cX8_tell 50 = .ok (.iadd, 1) := by decide +kernel
theorem dX8_tell_51 : decode cX8_tell 51 = .ok (.putfield 41, 3) := by decide +kernel
theorem dX8_tell_54 : decode cX8_tell 54 = .ok (.iinc 1 1, 3) := by decide +kernel
theorem dX8_tell_57 : decode cX8_tell 57 = .ok (.goto (-51), 3) := by decide +kernel
theorem dX8_tell_60 : decode cX8_tell 60 = .ok (.iconst 0, 1) := by decide +kernel
theorem dX8_tell_61 : decode cX8_tell 61 = .ok (.ireturn, 1) := by decide +kernel
theorem dX8_begin_0 : decode cX8_begin 0 = .ok (.aload_n 0, 1) := by decide +kernel
theorem dX8_begin_1 : decode cX8_begin 1 = .ok (.getfield 18, 3) := by decide +kernel
theorem dX8_begin_4 : decode cX8_begin 4 = .ok (.invokevirtual 44, 3) := by decide +kernel
theorem dX8_begin_7 : decode cX8_begin 7 = .ok (.aload_n 0, 1) := by decide +kernel
theorem dX8_begin_8 : decode cX8_begin 8 = .ok (.getfield 12, 3) := by decide +kernel
theorem dX8_begin_11 : decode cX8_begin 11 = .ok (.iconst 0, 1) := by decide +kernel
theorem dX8_begin_12 : decode cX8_begin 12 = .ok (.invokevirtual 47, 3) := by decide +kernel
theorem dX8_begin_15 : decode cX8_begin 15 = .ok (.aload_n 0, 1) := by decide +kernel
theorem dX8_begin_16 : decode cX8_begin 16 = .ok (.iconst 2, 1) := by decide +kernel
theorem dX8_begin_17 : decode cX8_begin 17 = .ok (.putfield 51, 3) := by decide +kernel
theorem dX8_begin_20 : decode cX8_begin 20 = .ok (.aload_n 0, 1) := by decide +kernel
theorem dX8_begin_21 : decode cX8_begin 21 = .ok (.iconst 2, 1) := by decide +kernel
theorem dX8_begin_22 : decode cX8_begin 22 = .ok (.putfield 54, 3) := by decide +kernel
theorem dX8_begin_25 : decode cX8_begin 25 = .ok (.aload_n 0, 1) := by decide +kernel
theorem dX8_begin_26 : decode cX8_begin 26 = .ok (.iconst 0, 1) := by decide +kernel
theorem dX8_begin_27 : decode cX8_begin 27 = .ok (.putfield 41, 3) := by decide +kernel
theorem dX8_begin_30 : decode cX8_begin 30 = .ok (.aload_n 0, 1) := by decide +kernel
theorem dX8_begin_31 : decode cX8_begin 31 = .ok (.iconst 0, 1) := by decide +kernel
theorem dX8_begin_32 : decode cX8_begin 32 = .ok (.putfield 57, 3) := by decide +kernel
theorem dX8_begin_35 : decode cX8_begin 35 = .ok (.aload_n 0, 1) := by decide +kernel
theorem dX8_begin_36 : decode cX8_begin 36 = .ok (.iconst 0, 1) := by decide +kernel
theorem dX8_begin_37 : decode cX8_begin 37 = .ok (.putfield 60, 3) := by decide +kernel
theorem dX8_begin_40 : decode cX8_begin 40 = .ok (.aload_n 0, 1) := by decide +kernel
theorem dX8_begin_41 : decode cX8_begin 41 = .ok (.iconst 0, 1) := by decide +kernel
theorem dX8_begin_42 : decode cX8_begin 42 = .ok (.putfield 63, 3) := by decide +kernel
theorem dX8_begin_45 : decode cX8_begin 45 = .ok (.aload_n 0, 1) := by decide +kernel
theorem dX8_begin_46 : decode cX8_begin 46 = .ok (.iconst 0, 1) := by decide +kernel
theorem dX8_begin_47 : decode cX8_begin 47 = .ok (.putfield 67, 3) := by decide +kernel
theorem dX8_begin_50 : decode cX8_begin 50 = .ok (.aload_n 0, 1) := by decide +kernel
theorem dX8_begin_51 : decode cX8_begin 51 = .ok (.iconst 0, 1) := by decide +kernel
theorem dX8_begin_52 : decode cX8_begin 52 = .ok (.putfield 70, 3) := by decide +kernel
theorem dX8_begin_55 : decode cX8_begin 55 = .ok (.aload_n 0, 1) := by decide +kernel
theorem dX8_begin_56 : decode cX8_begin 56 = .ok (.iconst 0, 1) := by decide +kernel
theorem dX8_begin_57 : decode cX8_begin 57 = .ok (.putfield 73, 3) := by decide +kernel
theorem dX8_begin_60 : decode cX8_begin 60 = .ok (.aload_n 0, 1) := by decide +kernel
theorem dX8_begin_61 : decode cX8_begin 61 = .ok (.iconst 0, 1) := by decide +kernel
theorem dX8_begin_62 : decode cX8_begin 62 = .ok (.putfield 76, 3) := by decide +kernel
theorem dX8_begin_65 : decode cX8_begin 65 = .ok (.return_, 1) := by decide +kernel
theorem dX8_finish_0 : decode cX8_finish 0 = .ok (.aload_n 0, 1) := by decide +kernel
theorem dX8_finish_1 : decode cX8_finish 1 = .ok (.getfield 51, 3) := by decide +kernel
theorem dX8_finish_4 : decode cX8_finish 4 = .ok (.aload_n 0, 1) := by decide +kernel
theorem dX8_finish_5 : decode cX8_finish 5 = .ok (.getfield 54, 3) := by decide +kernel
theorem dX8_finish_8 : decode cX8_finish 8 = .ok (.invokestatic 79, 3) := by decide +kernel
theorem dX8_finish_11 : decode cX8_finish 11 = .ok (.invokestatic 85, 3) := by decide +kernel
theorem dX8_finish_14 : decode cX8_finish 14 = .ok (.istore_n 1, 1) := by decide +kernel
theorem dX8_finish_15 : decode cX8_finish 15 = .ok (.aload_n 0, 1) := by decide +kernel
theorem dX8_finish_16 : decode cX8_finish 16 = .ok (.getfield 67, 3) := by decide +kernel
theorem dX8_finish_19 : decode cX8_finish 19 = .ok (.aload_n 0, 1) := by decide +kernel
theorem dX8_finish_20 : decode cX8_finish 20 = .ok (.getfield 70, 3) := by decide +kernel
theorem dX8_finish_23 : decode cX8_finish 23 = .ok (.ior, 1) := by decide +kernel
theorem dX8_finish_24 : decode cX8_finish 24 = .ok (.iload_n 1, 1) := by decide +kernel
theorem dX8_finish_25 : decode cX8_finish 25 = .ok (.iconst (-1), 1) := by decide +kernel
theorem dX8_finish_26 : decode cX8_finish 26 = .ok (.ixor, 1) := by decide +kernel
theorem dX8_finish_27 : decode cX8_finish 27 = .ok (.iand, 1) := by decide +kernel
theorem dX8_finish_28 : decode cX8_finish 28 = .ok (.ifCond .eq 9, 3) := by decide +kernel
theorem dX8_finish_31 : decode cX8_finish 31 = .ok (.aload_n 0, 1) := by decide +kernel
theorem dX8_finish_32 : decode cX8_finish 32 = .ok (.iconst 5, 1) := by decide +kernel
theorem dX8_finish_33 : decode cX8_finish 33 = .ok (.invokevirtual 89, 3) := by decide +kernel
theorem dX8_finish_36 : decode cX8_finish 36 = .ok (.ireturn, 1) := by decide +kernel
theorem dX8_finish_37 : decode cX8_finish 37 = .ok (.aload_n 0, 1) := by decide +kernel
theorem dX8_finish_38 : decode cX8_finish 38 = .ok (.getfield 12, 3) := by decide +kernel
theorem dX8_finish_41 : decode cX8_finish 41 = .ok (.iload_n 1, 1) := by decide +kernel
theorem dX8_finish_42 : decode cX8_finish 42 = .ok (.aload_n 0, 1) := by decide +kernel
theorem dX8_finish_43 : decode cX8_finish 43 = .ok (.getfield 67, 3) := by decide +kernel
theorem dX8_finish_46 : decode cX8_finish 46 = .ok (.iconst (-1), 1) := by decide +kernel
theorem dX8_finish_47 : decode cX8_finish 47 = .ok (.ixor, 1) := by decide +kernel
theorem dX8_finish_48 : decode cX8_finish 48 = .ok (.iand, 1) := by decide +kernel
theorem dX8_finish_49 : decode cX8_finish 49 = .ok (.putfield 93, 3) := by decide +kernel
theorem dX8_finish_52 : decode cX8_finish 52 = .ok (.aload_n 0, 1) := by decide +kernel
theorem dX8_finish_53 : decode cX8_finish 53 = .ok (.getfield 12, 3) := by decide +kernel
theorem dX8_finish_56 : decode cX8_finish 56 = .ok (.aload_n 0, 1) := by decide +kernel
theorem dX8_finish_57 : decode cX8_finish 57 = .ok (.getfield 73, 3) := by decide +kernel
theorem dX8_finish_60 : decode cX8_finish 60 = .ok (.ifCond .ne 8, 3) := by decide +kernel
theorem dX8_finish_63 : decode cX8_finish 63 = .ok (.bipush 14, 2) := by decide +kernel
theorem dX8_finish_65 : decode cX8_finish 65 = .ok (.goto 7, 3) := by decide +kernel
theorem dX8_finish_68 : decode cX8_finish 68 = .ok (.aload_n 0, 1) := by decide +kernel
theorem dX8_finish_69 : decode cX8_finish 69 = .ok (.getfield 73, 3) := by decide +kernel
theorem dX8_finish_72 : decode cX8_finish 72 = .ok (.putfield 96, 3) := by decide +kernel
theorem dX8_finish_75 : decode cX8_finish 75 = .ok (.iconst 1, 1) := by decide +kernel
theorem dX8_finish_76 : decode cX8_finish 76 = .ok (.ireturn, 1) := by decide +kernel
theorem dX8_refuse_0 : decode cX8_refuse 0 = .ok (.aload_n 0, 1) := by decide +kernel
theorem dX8_refuse_1 : decode cX8_refuse 1 = .ok (.iload_n 1, 1) := by decide +kernel
theorem dX8_refuse_2 : decode cX8_refuse 2 = .ok (.putfield 57, 3) := by decide +kernel
theorem dX8_refuse_5 : decode cX8_refuse 5 = .ok (.aload_n 0, 1) := by decide +kernel
theorem dX8_refuse_6 : decode cX8_refuse 6 = .ok (.aload_n 0, 1) := by decide +kernel
theorem dX8_refuse_7 : decode cX8_refuse 7 = .ok (.getfield 18, 3) := by decide +kernel
theorem dX8_refuse_10 : decode cX8_refuse 10 = .ok (.getfield 99, 3) := by decide +kernel
theorem dX8_refuse_13 : decode cX8_refuse 13 = .ok (.putfield 60, 3) := by decide +kernel
theorem dX8_refuse_16 : decode cX8_refuse 16 = .ok (.iconst 0, 1) := by decide +kernel
theorem dX8_refuse_17 : decode cX8_refuse 17 = .ok (.ireturn, 1) := by decide +kernel
theorem dX8_tellLine_0 : decode cX8_tellLine 0 = .ok (.aload_n 0, 1) := by decide +kernel
theorem dX8_tellLine_1 : decode cX8_tellLine 1 = .ok (.getfield 18, 3) := by decide +kernel
theorem dX8_tellLine_4 : decode cX8_tellLine 4 = .ok (.ldc 102, 2) := by decide +kernel
theorem dX8_tellLine_6 : decode cX8_tellLine 6 = .ok (.invokevirtual 104, 3) := by decide +kernel
theorem dX8_tellLine_9 : decode cX8_tellLine 9 = .ok (.ifCond .eq 8, 3) := by decide +kernel
theorem dX8_tellLine_12 : decode cX8_tellLine 12 = .ok (.aload_n 0, 1) := by decide +kernel
theorem dX8_tellLine_13 : decode cX8_tellLine 13 = .ok (.invokevirtual 108, 3) := by decide +kernel
theorem dX8_tellLine_16 : decode cX8_tellLine 16 = .ok (.ireturn, 1) := by decide +kernel
theorem dX8_tellLine_17 : decode cX8_tellLine 17 = .ok (.aload_n 0, 1) := by decide +kernel
theorem dX8_tellLine_18 : decode cX8_tellLine 18 = .ok (.getfield 18, 3) := by decide +kernel
theorem dX8_tellLine_21 : decode cX8_tellLine 21 = .ok (.ldc 111, 2) := by decide +kernel
theorem dX8_tellLine_23 : decode cX8_tellLine 23 = .ok (.invokevirtual 104, 3) := by decide +kernel
theorem dX8_tellLine_26 : decode cX8_tellLine 26 = .ok (.ifCond .eq 8, 3) := by decide +kernel
theorem dX8_tellLine_29 : decode cX8_tellLine 29 = .ok (.aload_n 0, 1) := by decide +kernel
theorem dX8_tellLine_30 : decode cX8_tellLine 30 = .ok (.invokevirtual 113, 3) := by decide +kernel
theorem dX8_tellLine_33 : decode cX8_tellLine 33 = .ok (.ireturn, 1) := by decide +kernel
theorem dX8_tellLine_34 : decode cX8_tellLine 34 = .ok (.aload_n 0, 1) := by decide +kernel
theorem dX8_tellLine_35 : decode cX8_tellLine 35 = .ok (.getfield 18, 3) := by decide +kernel
theorem dX8_tellLine_38 : decode cX8_tellLine 38 = .ok (.ldc 116, 2) := by decide +kernel
theorem dX8_tellLine_40 : decode cX8_tellLine 40 = .ok (.invokevirtual 104, 3) := by decide +kernel
theorem dX8_tellLine_43 : decode cX8_tellLine 43 = .ok (.ifCond .eq 8, 3) := by decide +kernel
theorem dX8_tellLine_46 : decode cX8_tellLine 46 = .ok (.aload_n 0, 1) := by decide +kernel
theorem dX8_tellLine_47 : decode cX8_tellLine 47 = .ok (.invokevirtual 118, 3) := by decide +kernel
theorem dX8_tellLine_50 : decode cX8_tellLine 50 = .ok (.ireturn, 1) := by decide +kernel
theorem dX8_tellLine_51 : decode cX8_tellLine 51 = .ok (.aload_n 0, 1) := by decide +kernel
theorem dX8_tellLine_52 : decode cX8_tellLine 52 = .ok (.getfield 18, 3) := by decide +kernel
theorem dX8_tellLine_55 : decode cX8_tellLine 55 = .ok (.ldc 121, 2) := by decide +kernel
theorem dX8_tellLine_57 : decode cX8_tellLine 57 = .ok (.invokevirtual 104, 3) := by decide +kernel
theorem dX8_tellLine_60 : decode cX8_tellLine 60 = .ok (.ifCond .eq 8, 3) := by decide +kernel
theorem dX8_tellLine_63 : decode cX8_tellLine 63 = .ok (.aload_n 0, 1) := by decide +kernel
theorem dX8_tellLine_64 : decode cX8_tellLine 64 = .ok (.invokevirtual 123, 3) := by decide +kernel
theorem dX8_tellLine_67 : decode cX8_tellLine 67 = .ok (.ireturn, 1) := by decide +kernel
theorem dX8_tellLine_68 : decode cX8_tellLine 68 = .ok (.aload_n 0, 1) := by decide +kernel
theorem dX8_tellLine_69 : decode cX8_tellLine 69 = .ok (.getfield 18, 3) := by decide +kernel
theorem dX8_tellLine_72 : decode cX8_tellLine 72 = .ok (.ldc 126, 2) := by decide +kernel
theorem dX8_tellLine_74 : decode cX8_tellLine 74 = .ok (.invokevirtual 104, 3) := by decide +kernel
theorem dX8_tellLine_77 : decode cX8_tellLine 77 = .ok (.ifCond .eq 8, 3) := by decide +kernel
theorem dX8_tellLine_80 : decode cX8_tellLine 80 = .ok (.aload_n 0, 1) := by decide +kernel
theorem dX8_tellLine_81 : decode cX8_tellLine 81 = .ok (.invokevirtual 128, 3) := by decide +kernel
theorem dX8_tellLine_84 : decode cX8_tellLine 84 = .ok (.ireturn, 1) := by decide +kernel
theorem dX8_tellLine_85 : decode cX8_tellLine 85 = .ok (.aload_n 0, 1) := by decide +kernel
theorem dX8_tellLine_86 : decode cX8_tellLine 86 = .ok (.aload_n 0, 1) := by decide +kernel
theorem dX8_tellLine_87 : decode cX8_tellLine 87 = .ok (.invokevirtual 131, 3) := by decide +kernel
theorem dX8_tellLine_90 : decode cX8_tellLine 90 = .ok (.invokevirtual 89, 3) := by decide +kernel
theorem dX8_tellLine_93 : decode cX8_tellLine 93 = .ok (.ireturn, 1) := by decide +kernel
theorem dX8_misfit_0 : decode cX8_misfit 0 = .ok (.aload_n 0, 1) := by decide +kernel
theorem dX8_misfit_1 : decode cX8_misfit 1 = .ok (.getfield 18, 3) := by decide +kernel
theorem dX8_misfit_4 : decode cX8_misfit 4 = .ok (.getfield 30, 3) := by decide +kernel
theorem dX8_misfit_7 : decode cX8_misfit 7 = .ok (.iconst 4, 1) := by decide +kernel
theorem dX8_misfit_8 : decode cX8_misfit 8 = .ok (.if_icmp .ne 7, 3) := by decide +kernel
theorem dX8_misfit_11 : decode cX8_misfit 11 = .ok (.iconst 1, 1) := by decide +kernel
theorem dX8_misfit_12 : decode cX8_misfit 12 = .ok (.goto 4, 3) := by decide +kernel
theorem dX8_misfit_15 : decode cX8_misfit 15 = .ok (.iconst 2, 1) := by decide +kernel
theorem dX8_misfit_16 : decode cX8_misfit 16 = .ok (.ireturn, 1) := by decide +kernel
theorem dX8_tellGrid_0 : decode cX8_tellGrid 0 = .ok (.aload_n 0, 1) := by decide +kernel
theorem dX8_tellGrid_1 : decode cX8_tellGrid 1 = .ok (.getfield 63, 3) := by decide +kernel
theorem dX8_tellGrid_4 : decode cX8_tellGrid 4 = .ok (.ifCond .eq 9, 3) := by decide +kernel
theorem dX8_tellGrid_7 : decode cX8_tellGrid 7 = .ok (.aload_n 0, 1) := by decide +kernel
theorem dX8_tellGrid_8 : decode cX8_tellGrid 8 = .ok (.iconst 4, 1) := by decide +kernel
theorem dX8_tellGrid_9 : decode cX8_tellGrid 9 = .ok (.invokevirtual 89, 3) := by decide +kernel
theorem dX8_tellGrid_12 : decode cX8_tellGrid 12 = .ok (.ireturn, 1) := by decide +kernel
theorem dX8_tellGrid_13 : decode cX8_tellGrid 13 = .ok (.aload_n 0, 1) := by decide +kernel
theorem dX8_tellGrid_14 : decode cX8_tellGrid 14 = .ok (.iconst 1, 1) := by decide +kernel
theorem dX8_tellGrid_15 : decode cX8_tellGrid 15 = .ok (.putfield 63, 3) := by decide +kernel
theorem dX8_tellGrid_18 : decode cX8_tellGrid 18 = .ok (.aload_n 0, 1) := by decide +kernel
theorem dX8_tellGrid_19 : decode cX8_tellGrid 19 = .ok (.iconst 1, 1) := by decide +kernel
theorem dX8_tellGrid_20 : decode cX8_tellGrid 20 = .ok (.iconst 4, 1) := by decide +kernel
theorem dX8_tellGrid_21 : decode cX8_tellGrid 21 = .ok (.iconst 0, 1) := by decide +kernel
theorem dX8_tellGrid_22 : decode cX8_tellGrid 22 = .ok (.invokevirtual 135, 3) := by decide +kernel
theorem dX8_tellGrid_25 : decode cX8_tellGrid 25 = .ok (.ifCond .ne 5, 3) := by decide +kernel
theorem dX8_tellGrid_28 : decode cX8_tellGrid 28 = .ok (.iconst 0, 1) := by decide +kernel
theorem dX8_tellGrid_29 : decode cX8_tellGrid 29 = .ok (.ireturn, 1) := by decide +kernel
theorem dX8_tellGrid_30 : decode cX8_tellGrid 30 = .ok (.aload_n 0, 1) := by decide +kernel
theorem dX8_tellGrid_31 : decode cX8_tellGrid 31 = .ok (.aload_n 0, 1) := by decide +kernel
theorem dX8_tellGrid_32 : decode cX8_tellGrid 32 = .ok (.getfield 18, 3) := by decide +kernel
theorem dX8_tellGrid_35 : decode cX8_tellGrid 35 = .ok (.getfield 139, 3) := by decide +kernel
theorem dX8_tellGrid_38 : decode cX8_tellGrid 38 = .ok (.putfield 51, 3) := by decide +kernel
theorem dX8_tellGrid_41 : decode cX8_tellGrid 41 = .ok (.aload_n 0, 1) := by decide +kernel
theorem dX8_tellGrid_42 : decode cX8_tellGrid 42 = .ok (.iconst 1, 1) := by decide +kernel
theorem dX8_tellGrid_43 : decode cX8_tellGrid 43 = .ok (.iconst 3, 1) := by decide +kernel
theorem dX8_tellGrid_44 : decode cX8_tellGrid 44 = .ok (.iconst 0, 1) := by decide +kernel
theorem dX8_tellGrid_45 : decode cX8_tellGrid 45 = .ok (.invokevirtual 135, 3) := by decide +kernel
theorem dX8_tellGrid_48 : decode cX8_tellGrid 48 = .ok (.ifCond .ne 5, 3) := by decide +kernel
theorem dX8_tellGrid_51 : decode cX8_tellGrid 51 = .ok (.iconst 0, 1) := by decide +kernel
theorem dX8_tellGrid_52 : decode cX8_tellGrid 52 = .ok (.ireturn, 1) := by decide +kernel
theorem dX8_tellGrid_53 : decode cX8_tellGrid 53 = .ok (.aload_n 0, 1) := by decide +kernel
theorem dX8_tellGrid_54 : decode cX8_tellGrid 54 = .ok (.aload_n 0, 1) := by decide +kernel
theorem dX8_tellGrid_55 : decode cX8_tellGrid 55 = .ok (.getfield 18, 3) := by decide +kernel
theorem dX8_tellGrid_58 : decode cX8_tellGrid 58 = .ok (.getfield 139, 3) := by decide +kernel
theorem dX8_tellGrid_61 : decode cX8_tellGrid 61 = .ok (.putfield 54, 3) := by decide +kernel
theorem dX8_tellGrid_64 : decode cX8_tellGrid 64 = .ok (.aload_n 0, 1) := by decide +kernel
theorem dX8_tellGrid_65 : decode cX8_tellGrid 65 = .ok (.invokevirtual 142, 3) := by decide +kernel
theorem dX8_tellGrid_68 : decode cX8_tellGrid 68 = .ok (.ireturn, 1) := by decide +kernel
theorem dX8_tellGone_0 : decode cX8_tellGone 0 = .ok (.aload_n 0, 1) := by decide +kernel
theorem dX8_tellGone_1 : decode cX8_tellGone 1 = .ok (.iconst 0, 1) := by decide +kernel
theorem dX8_tellGone_2 : decode cX8_tellGone 2 = .ok (.bipush 30, 2) := by decide +kernel
theorem dX8_tellGone_4 : decode cX8_tellGone 4 = .ok (.aload_n 0, 1) := by decide +kernel
theorem dX8_tellGone_5 : decode cX8_tellGone 5 = .ok (.getfield 67, 3) := by decide +kernel
theorem dX8_tellGone_8 : decode cX8_tellGone 8 = .ok (.invokevirtual 135, 3) := by decide +kernel
theorem dX8_tellGone_11 : decode cX8_tellGone 11 = .ok (.istore_n 1, 1) := by decide +kernel
theorem dX8_tellGone_12 : decode cX8_tellGone 12 = .ok (.iconst 0, 1) := by decide +kernel
theorem dX8_tellGone_13 : decode cX8_tellGone 13 = .ok (.istore_n 2, 1) := by decide +kernel
theorem dX8_tellGone_14 : decode cX8_tellGone 14 = .ok (.iload_n 2, 1) := by decide +kernel
theorem dX8_tellGone_15 : decode cX8_tellGone 15 = .ok (.sipush 320, 3) := by decide +kernel
theorem dX8_tellGone_18 : decode cX8_tellGone 18 = .ok (.if_icmp .ge 43, 3) := by decide +kernel
theorem dX8_tellGone_21 : decode cX8_tellGone 21 = .ok (.iload_n 1, 1) := by decide +kernel
theorem dX8_tellGone_22 : decode cX8_tellGone 22 = .ok (.ifCond .eq 39, 3) := by decide +kernel
theorem dX8_tellGone_25 : decode cX8_tellGone 25 = .ok (.aload_n 0, 1) := by decide +kernel
theorem dX8_tellGone_26 : decode cX8_tellGone 26 = .ok (.dup, 1) := by decide +kernel
theorem dX8_tellGone_27 : decode cX8_tellGone 27 = .ok (.getfield 67, 3) := by decide +kernel
theorem dX8_tellGone_30 : decode cX8_tellGone 30 = .ok (.iconst 1, 1) := by decide +kernel
theorem dX8_tellGone_31 : decode cX8_tellGone 31 = .ok (.aload_n 0, 1) := by decide +kernel
theorem dX8_tellGone_32 : decode cX8_tellGone 32 = .ok (.getfield 18, 3) := by decide +kernel
theorem dX8_tellGone_35 : decode cX8_tellGone 35 = .ok (.getfield 139, 3) := by decide +kernel
theorem dX8_tellGone_38 : decode cX8_tellGone 38 = .ok (.ishl, 1) := by decide +kernel
theorem dX8_tellGone_39 : decode cX8_tellGone 39 = .ok (.ior, 1) := by decide +kernel
theorem dX8_tellGone_40 : decode cX8_tellGone 40 = .ok (.putfield 67, 3) := by decide +kernel
theorem dX8_tellGone_43 : decode cX8_tellGone 43 = .ok (.aload_n 0, 1) := by decide +kernel
theorem dX8_tellGone_44 : decode cX8_tellGone 44 = .ok (.iconst 0, 1) := by decide +kernel
theorem dX8_tellGone_45 : decode cX8_tellGone 45 = .ok (.bipush 30, 2) := by decide +kernel
theorem dX8_tellGone_47 : decode cX8_tellGone 47 = .ok (.aload_n 0, 1) := by decide +kernel
theorem dX8_tellGone_48 : decode cX8_tellGone 48 = .ok (.getfield 67, 3) := by decide +kernel
theorem dX8_tellGone_51 : decode cX8_tellGone 51 = .ok (.invokevirtual 145, 3) := by decide +kernel
theorem dX8_tellGone_54 : decode cX8_tellGone 54 = .ok (.istore_n 1, 1) := by decide +kernel
theorem dX8_tellGone_55 : decode cX8_tellGone 55 = .ok (.iinc 2 1, 3) := by decide +kernel
theorem dX8_tellGone_58 : decode cX8_tellGone 58 = .ok (.goto (-44), 3) := by decide +kernel
theorem dX8_tellGone_61 : decode cX8_tellGone 61 = .ok (.aload_n 0, 1) := by decide +kernel
theorem dX8_tellGone_62 : decode cX8_tellGone 62 = .ok (.getfield 57, 3) := by decide +kernel
theorem dX8_tellGone_65 : decode cX8_tellGone 65 = .ok (.ifCond .ne 7, 3) := by decide +kernel
theorem dX8_tellGone_68 : decode cX8_tellGone 68 = .ok (.iconst 1, 1) := by decide +kernel
theorem dX8_tellGone_69 : decode cX8_tellGone 69 = .ok (.goto 4, 3) := by decide +kernel
theorem dX8_tellGone_72 : decode cX8_tellGone 72 = .ok (.iconst 0, 1) := by decide +kernel
theorem dX8_tellGone_73 : decode cX8_tellGone 73 = .ok (.ireturn, 1) := by decide +kernel
theorem dX8_tellSizes_0 : decode cX8_tellSizes 0 = .ok (.aload_n 0, 1) := by decide +kernel
theorem dX8_tellSizes_1 : decode cX8_tellSizes 1 = .ok (.iconst 1, 1) := by decide +kernel
theorem dX8_tellSizes_2 : decode cX8_tellSizes 2 = .ok (.iconst 3, 1) := by decide +kernel
theorem dX8_tellSizes_3 : decode cX8_tellSizes 3 = .ok (.aload_n 0, 1) := by decide +kernel
theorem dX8_tellSizes_4 : decode cX8_tellSizes 4 = .ok (.getfield 73, 3) := by decide +kernel
theorem dX8_tellSizes_7 : decode cX8_tellSizes 7 = .ok (.invokevirtual 135, 3) := by decide +kernel
theorem dX8_tellSizes_10 : decode cX8_tellSizes 10 = .ok (.istore_n 1, 1) := by decide +kernel
theorem dX8_tellSizes_11 : decode cX8_tellSizes 11 = .ok (.iconst 0, 1) := by decide +kernel
theorem dX8_tellSizes_12 : decode cX8_tellSizes 12 = .ok (.istore_n 2, 1) := by decide +kernel
theorem dX8_tellSizes_13 : decode cX8_tellSizes 13 = .ok (.iload_n 2, 1) := by decide +kernel
theorem dX8_tellSizes_14 : decode cX8_tellSizes 14 = .ok (.sipush 320, 3) := by decide +kernel
theorem dX8_tellSizes_17 : decode cX8_tellSizes 17 = .ok (.if_icmp .ge 42, 3) := by decide +kernel
theorem dX8_tellSizes_20 : decode cX8_tellSizes 20 = .ok (.iload_n 1, 1) := by decide +kernel
theorem dX8_tellSizes_21 : decode cX8_tellSizes 21 = .ok (.ifCond .eq 38, 3) := by decide +kernel
theorem dX8_tellSizes_24 : decode cX8_tellSizes 24 = .ok (.aload_n 0, 1) := by decide +kernel
theorem dX8_tellSizes_25 : decode cX8_tellSizes 25 = .ok (.dup, 1) := by decide +kernel
theorem dX8_tellSizes_26 : decode cX8_tellSizes 26 = .ok (.getfield 73, 3) := by decide +kernel
theorem dX8_tellSizes_29 : decode cX8_tellSizes 29 = .ok (.iconst 1, 1) := by decide +kernel
theorem dX8_tellSizes_30 : decode cX8_tellSizes 30 = .ok (.aload_n 0, 1) := by decide +kernel
theorem dX8_tellSizes_31 : decode cX8_tellSizes 31 = .ok (.getfield 18, 3) := by decide +kernel
theorem dX8_tellSizes_34 : decode cX8_tellSizes 34 = .ok (.getfield 139, 3) := by decide +kernel
theorem dX8_tellSizes_37 : decode cX8_tellSizes 37 = .ok (.ishl, 1) := by decide +kernel
theorem dX8_tellSizes_38 : decode cX8_tellSizes 38 = .ok (.ior, 1) := by decide +kernel
theorem dX8_tellSizes_39 : decode cX8_tellSizes 39 = .ok (.putfield 73, 3) := by decide +kernel
theorem dX8_tellSizes_42 : decode cX8_tellSizes 42 = .ok (.aload_n 0, 1) := by decide +kernel
theorem dX8_tellSizes_43 : decode cX8_tellSizes 43 = .ok (.iconst 1, 1) := by decide +kernel
theorem dX8_tellSizes_44 : decode cX8_tellSizes 44 = .ok (.iconst 3, 1) := by decide +kernel
theorem dX8_tellSizes_45 : decode cX8_tellSizes 45 = .ok (.aload_n 0, 1) := by decide +kernel
theorem dX8_tellSizes_46 : decode cX8_tellSizes 46 = .ok (.getfield 73, 3) := by decide +kernel
theorem dX8_tellSizes_49 : decode cX8_tellSizes 49 = .ok (.invokevirtual 145, 3) := by decide +kernel
theorem dX8_tellSizes_52 : decode cX8_tellSizes 52 = .ok (.istore_n 1, 1) := by decide +kernel
theorem dX8_tellSizes_53 : decode cX8_tellSizes 53 = .ok (.iinc 2 1, 3) := by decide +kernel
theorem dX8_tellSizes_56 : decode cX8_tellSizes 56 = .ok (.goto (-43), 3) := by decide +kernel
theorem dX8_tellSizes_59 : decode cX8_tellSizes 59 = .ok (.aload_n 0, 1) := by decide +kernel
theorem dX8_tellSizes_60 : decode cX8_tellSizes 60 = .ok (.getfield 57, 3) := by decide +kernel
theorem dX8_tellSizes_63 : decode cX8_tellSizes 63 = .ok (.ifCond .ne 7, 3) := by decide +kernel
theorem dX8_tellSizes_66 : decode cX8_tellSizes 66 = .ok (.iconst 1, 1) := by decide +kernel
theorem dX8_tellSizes_67 : decode cX8_tellSizes 67 = .ok (.goto 4, 3) := by decide +kernel
theorem dX8_tellSizes_70 : decode cX8_tellSizes 70 = .ok (.iconst 0, 1) := by decide +kernel
theorem dX8_tellSizes_71 : decode cX8_tellSizes 71 = .ok (.ireturn, 1) := by decide +kernel
theorem dX8_tellCost_0 : decode cX8_tellCost 0 = .ok (.aload_n 0, 1) := by decide +kernel
theorem dX8_tellCost_1 : decode cX8_tellCost 1 = .ok (.iconst 0, 1) := by decide +kernel
theorem dX8_tellCost_2 : decode cX8_tellCost 2 = .ok (.bipush 30, 2) := by decide +kernel
theorem dX8_tellCost_4 : decode cX8_tellCost 4 = .ok (.aload_n 0, 1) := by decide +kernel
theorem dX8_tellCost_5 : decode cX8_tellCost 5 = .ok (.getfield 70, 3) := by decide +kernel
theorem dX8_tellCost_8 : decode cX8_tellCost 8 = .ok (.invokevirtual 135, 3) := by decide +kernel
theorem dX8_tellCost_11 : decode cX8_tellCost 11 = .ok (.ifCond .ne 5, 3) := by decide +kernel
theorem dX8_tellCost_14 : decode cX8_tellCost 14 = .ok (.iconst 0, 1) := by decide +kernel
theorem dX8_tellCost_15 : decode cX8_tellCost 15 = .ok (.ireturn, 1) := by decide +kernel
theorem dX8_tellCost_16 : decode cX8_tellCost 16 = .ok (.aload_n 0, 1) := by decide +kernel
theorem dX8_tellCost_17 : decode cX8_tellCost 17 = .ok (.getfield 18, 3) := by decide +kernel
theorem dX8_tellCost_20 : decode cX8_tellCost 20 = .ok (.getfield 139, 3) := by decide +kernel
theorem dX8_tellCost_23 : decode cX8_tellCost 23 = .ok (.istore_n 1, 1) := by decide +kernel
theorem dX8_tellCost_24 : decode cX8_tellCost 24 = .ok (.aload_n 0, 1) := by decide +kernel
theorem dX8_tellCost_25 : decode cX8_tellCost 25 = .ok (.dup, 1) := by decide +kernel
theorem dX8_tellCost_26 : decode cX8_tellCost 26 = .ok (.getfield 70, 3) := by decide +kernel
theorem dX8_tellCost_29 : decode cX8_tellCost 29 = .ok (.iconst 1, 1) := by decide +kernel
theorem dX8_tellCost_30 : decode cX8_tellCost 30 = .ok (.iload_n 1, 1) := by decide +kernel
theorem dX8_tellCost_31 : decode cX8_tellCost 31 = .ok (.ishl, 1) := by decide +kernel
theorem dX8_tellCost_32 : decode cX8_tellCost 32 = .ok (.ior, 1) := by decide +kernel
theorem dX8_tellCost_33 : decode cX8_tellCost 33 = .ok (.putfield 70, 3) := by decide +kernel
theorem dX8_tellCost_36 : decode cX8_tellCost 36 = .ok (.aload_n 0, 1) := by decide +kernel
theorem dX8_tellCost_37 : decode cX8_tellCost 37 = .ok (.iconst 1, 1) := by decide +kernel
theorem dX8_tellCost_38 : decode cX8_tellCost 38 = .ok (.bipush 9, 2) := by decide +kernel
theorem dX8_tellCost_40 : decode cX8_tellCost 40 = .ok (.iconst 0, 1) := by decide +kernel
theorem dX8_tellCost_41 : decode cX8_tellCost 41 = .ok (.invokevirtual 135, 3) := by decide +kernel
theorem dX8_tellCost_44 : decode cX8_tellCost 44 = .ok (.ifCond .ne 5, 3) := by decide +kernel
theorem dX8_tellCost_47 : decode cX8_tellCost 47 = .ok (.iconst 0, 1) := by decide +kernel
theorem dX8_tellCost_48 : decode cX8_tellCost 48 = .ok (.ireturn, 1) := by decide +kernel
theorem dX8_tellCost_49 : decode cX8_tellCost 49 = .ok (.aload_n 0, 1) := by decide +kernel
theorem dX8_tellCost_50 : decode cX8_tellCost 50 = .ok (.getfield 12, 3) := by decide +kernel
theorem dX8_tellCost_53 : decode cX8_tellCost 53 = .ok (.getfield 148, 3) := by decide +kernel
theorem dX8_tellCost_56 : decode cX8_tellCost 56 = .ok (.iload_n 1, 1) := by decide +kernel
theorem dX8_tellCost_57 : decode cX8_tellCost 57 = .ok (.aload_n 0, 1) := by decide +kernel
theorem dX8_tellCost_58 : decode cX8_tellCost 58 = .ok (.getfield 18, 3) := by decide +kernel
theorem dX8_tellCost_61 : decode cX8_tellCost 61 = .ok (.getfield 139, 3) := by decide +kernel
theorem dX8_tellCost_64 : decode cX8_tellCost 64 = .ok (.iastore, 1) := by decide +kernel
theorem dX8_tellCost_65 : decode cX8_tellCost 65 = .ok (.aload_n 0, 1) := by decide +kernel
theorem dX8_tellCost_66 : decode cX8_tellCost 66 = .ok (.invokevirtual 142, 3) := by decide +kernel
theorem dX8_tellCost_69 : decode cX8_tellCost 69 = .ok (.ireturn, 1) := by decide +kernel
theorem dX8_tellSeen_0 : decode cX8_tellSeen 0 = .ok (.aload_n 0, 1) := by decide +kernel
theorem dX8_tellSeen_1 : decode cX8_tellSeen 1 = .ok (.iconst 1, 1) := by decide +kernel
theorem dX8_tellSeen_2 : decode cX8_tellSeen 2 = .ok (.iconst 3, 1) := by decide +kernel
theorem dX8_tellSeen_3 : decode cX8_tellSeen 3 = .ok (.aload_n 0, 1) := by decide +kernel
theorem dX8_tellSeen_4 : decode cX8_tellSeen 4 = .ok (.getfield 76, 3) := by decide +kernel
theorem dX8_tellSeen_7 : decode cX8_tellSeen 7 = .ok (.invokevirtual 135, 3) := by decide +kernel
theorem dX8_tellSeen_10 : decode cX8_tellSeen 10 = .ok (.ifCond .ne 5, 3) := by decide +kernel
theorem dX8_tellSeen_13 : decode cX8_tellSeen 13 = .ok (.iconst 0, 1) := by decide +kernel
theorem dX8_tellSeen_14 : decode cX8_tellSeen 14 = .ok (.ireturn, 1) := by decide +kernel
theorem dX8_tellSeen_15 : decode cX8_tellSeen 15 = .ok (.aload_n 0, 1) := by decide +kernel
theorem dX8_tellSeen_16 : decode cX8_tellSeen 16 = .ok (.getfield 18, 3) := by decide +kernel
theorem dX8_tellSeen_19 : decode cX8_tellSeen 19 = .ok (.getfield 139, 3) := by decide +kernel
theorem dX8_tellSeen_22 : decode cX8_tellSeen 22 = .ok (.istore_n 1, 1) := by decide +kernel
theorem dX8_tellSeen_23 : decode cX8_tellSeen 23 = .ok (.aload_n 0, 1) := by decide +kernel
theorem dX8_tellSeen_24 : decode cX8_tellSeen 24 = .ok (.dup, 1) := by decide +kernel
theorem dX8_tellSeen_25 : decode cX8_tellSeen 25 = .ok (.getfield 76, 3) := by decide +kernel
theorem dX8_tellSeen_28 : decode cX8_tellSeen 28 = .ok (.iconst 1, 1) := by decide +kernel
theorem dX8_tellSeen_29 : decode cX8_tellSeen 29 = .ok (.iload_n 1, 1) := by decide +kernel
theorem dX8_tellSeen_30 : decode cX8_tellSeen 30 = .ok (.ishl, 1) := by decide +kernel
theorem dX8_tellSeen_31 : decode cX8_tellSeen 31 = .ok (.ior, 1) := by decide +kernel
theorem dX8_tellSeen_32 : decode cX8_tellSeen 32 = .ok (.putfield 76, 3) := by decide +kernel
theorem dX8_tellSeen_35 : decode cX8_tellSeen 35 = .ok (.aload_n 0, 1) := by decide +kernel
theorem dX8_tellSeen_36 : decode cX8_tellSeen 36 = .ok (.iconst 0, 1) := by decide +kernel
theorem dX8_tellSeen_37 : decode cX8_tellSeen 37 = .ok (.bipush 12, 2) := by decide +kernel
theorem dX8_tellSeen_39 : decode cX8_tellSeen 39 = .ok (.iconst 0, 1) := by decide +kernel
theorem dX8_tellSeen_40 : decode cX8_tellSeen 40 = .ok (.invokevirtual 135, 3) := by decide +kernel
theorem dX8_tellSeen_43 : decode cX8_tellSeen 43 = .ok (.ifCond .ne 5, 3) := by decide +kernel
theorem dX8_tellSeen_46 : decode cX8_tellSeen 46 = .ok (.iconst 0, 1) := by decide +kernel
theorem dX8_tellSeen_47 : decode cX8_tellSeen 47 = .ok (.ireturn, 1) := by decide +kernel
theorem dX8_tellSeen_48 : decode cX8_tellSeen 48 = .ok (.aload_n 0, 1) := by decide +kernel
theorem dX8_tellSeen_49 : decode cX8_tellSeen 49 = .ok (.getfield 12, 3) := by decide +kernel
theorem dX8_tellSeen_52 : decode cX8_tellSeen 52 = .ok (.getfield 152, 3) := by decide +kernel
theorem dX8_tellSeen_55 : decode cX8_tellSeen 55 = .ok (.iload_n 1, 1) := by decide +kernel
theorem dX8_tellSeen_56 : decode cX8_tellSeen 56 = .ok (.aload_n 0, 1) := by decide +kernel
theorem dX8_tellSeen_57 : decode cX8_tellSeen 57 = .ok (.getfield 18, 3) := by decide +kernel
theorem dX8_tellSeen_60 : decode cX8_tellSeen 60 = .ok (.getfield 139, 3) := by decide +kernel
theorem dX8_tellSeen_63 : decode cX8_tellSeen 63 = .ok (.iastore, 1) := by decide +kernel
theorem dX8_tellSeen_64 : decode cX8_tellSeen 64 = .ok (.aload_n 0, 1) := by decide +kernel
theorem dX8_tellSeen_65 : decode cX8_tellSeen 65 = .ok (.invokevirtual 142, 3) := by decide +kernel
theorem dX8_tellSeen_68 : decode cX8_tellSeen 68 = .ok (.ireturn, 1) := by decide +kernel
theorem dX8_nextNumber_0 : decode cX8_nextNumber 0 = .ok (.aload_n 0, 1) := by decide +kernel
theorem dX8_nextNumber_1 : decode cX8_nextNumber 1 = .ok (.getfield 18, 3) := by decide +kernel
theorem dX8_nextNumber_4 : decode cX8_nextNumber 4 = .ok (.invokevirtual 27, 3) := by decide +kernel
theorem dX8_nextNumber_7 : decode cX8_nextNumber 7 = .ok (.aload_n 0, 1) := by decide +kernel
theorem dX8_nextNumber_8 : decode cX8_nextNumber 8 = .ok (.iload_n 1, 1) := by decide +kernel
theorem dX8_nextNumber_9 : decode cX8_nextNumber 9 = .ok (.iload_n 2, 1) := by decide +kernel
theorem dX8_nextNumber_10 : decode cX8_nextNumber 10 = .ok (.iload_n 3, 1) := by decide +kernel
theorem dX8_nextNumber_11 : decode cX8_nextNumber 11 = .ok (.invokevirtual 154, 3) := by decide +kernel
theorem dX8_nextNumber_14 : decode cX8_nextNumber 14 = .ok (.ireturn, 1) := by decide +kernel
theorem dX8_moreNumbers_0 : decode cX8_moreNumbers 0 = .ok (.aload_n 0, 1) := by decide +kernel
theorem dX8_moreNumbers_1 : decode cX8_moreNumbers 1 = .ok (.getfield 18, 3) := by decide +kernel
theorem dX8_moreNumbers_4 : decode cX8_moreNumbers 4 = .ok (.invokevirtual 27, 3) := by decide +kernel
theorem dX8_moreNumbers_7 : decode cX8_moreNumbers 7 = .ok (.aload_n 0, 1) := by decide +kernel
theorem dX8_moreNumbers_8 : decode cX8_moreNumbers 8 = .ok (.getfield 18, 3) := by decide +kernel
theorem dX8_moreNumbers_11 : decode cX8_moreNumbers 11 = .ok (.getfield 30, 3) := by decide +kernel
theorem dX8_moreNumbers_14 : decode cX8_moreNumbers 14 = .ok (.iconst 3, 1) := by decide +kernel
theorem dX8_moreNumbers_15 : decode cX8_moreNumbers 15 = .ok (.if_icmp .eq 17, 3) := by decide +kernel
theorem dX8_moreNumbers_18 : decode cX8_moreNumbers 18 = .ok (.aload_n 0, 1) := by decide +kernel
theorem dX8_moreNumbers_19 : decode cX8_moreNumbers 19 = .ok (.iload_n 1, 1) := by decide +kernel
theorem dX8_moreNumbers_20 : decode cX8_moreNumbers 20 = .ok (.iload_n 2, 1) := by decide +kernel
theorem dX8_moreNumbers_21 : decode cX8_moreNumbers 21 = .ok (.iload_n 3, 1) := by decide +kernel
theorem dX8_moreNumbers_22 : decode cX8_moreNumbers 22 = .ok (.invokevirtual 154, 3) := by decide +kernel
theorem dX8_moreNumbers_25 : decode cX8_moreNumbers 25 = .ok (.ifCond .eq 7, 3) := by decide +kernel
theorem dX8_moreNumbers_28 : decode cX8_moreNumbers 28 = .ok (.iconst 1, 1) := by decide +kernel
theorem dX8_moreNumbers_29 : decode cX8_moreNumbers 29 = .ok (.goto 4, 3) := by decide +kernel
theorem dX8_moreNumbers_32 : decode cX8_moreNumbers 32 = .ok (.iconst 0, 1) := by decide +kernel
theorem dX8_moreNumbers_33 : decode cX8_moreNumbers 33 = .ok (.ireturn, 1) := by decide +kernel
theorem dX8_isNumber_0 : decode cX8_isNumber 0 = .ok (.aload_n 0, 1) := by decide +kernel
theorem dX8_isNumber_1 : decode cX8_isNumber 1 = .ok (.getfield 18, 3) := by decide +kernel
theorem dX8_isNumber_4 : decode cX8_isNumber 4 = .ok (.getfield 30, 3) := by decide +kernel
theorem dX8_isNumber_7 : decode cX8_isNumber 7 = .ok (.iconst 2, 1) := by decide +kernel
theorem dX8_isNumber_8 : decode cX8_isNumber 8 = .ok (.if_icmp .eq 12, 3) := by decide +kernel
theorem dX8_isNumber_11 : decode cX8_isNumber 11 = .ok (.aload_n 0, 1) := by decide +kernel
theorem dX8_isNumber_12 : decode cX8_isNumber 12 = .ok (.aload_n 0, 1) := by decide +kernel
theorem dX8_isNumber_13 : decode cX8_isNumber 13 = .ok (.invokevirtual 131, 3) := by decide +kernel
theorem dX8_isNumber_16 : decode cX8_isNumber 16 = .ok (.invokevirtual 89, 3) := by decide +kernel
theorem dX8_isNumber_19 : decode cX8_isNumber 19 = .ok (.ireturn, 1) := by decide +kernel
theorem dX8_isNumber_20 : decode cX8_isNumber 20 = .ok (.aload_n 0, 1) := by decide +kernel
theorem dX8_isNumber_21 : decode cX8_isNumber 21 = .ok (.getfield 18, 3) := by decide +kernel
theorem dX8_isNumber_24 : decode cX8_isNumber 24 = .ok (.getfield 139, 3) := by decide +kernel
theorem dX8_isNumber_27 : decode cX8_isNumber 27 = .ok (.iload_n 1, 1) := by decide +kernel
theorem dX8_isNumber_28 : decode cX8_isNumber 28 = .ok (.if_icmp .lt 14, 3) := by decide +kernel
theorem dX8_isNumber_31 : decode cX8_isNumber 31 = .ok (.aload_n 0, 1) := by decide +kernel
theorem dX8_isNumber_32 : decode cX8_isNumber 32 = .ok (.getfield 18, 3) := by decide +kernel
theorem dX8_isNumber_35 : decode cX8_isNumber 35 = .ok (.getfield 139, 3) := by decide +kernel
theorem dX8_isNumber_38 : decode cX8_isNumber 38 = .ok (.iload_n 2, 1) := by decide +kernel
theorem dX8_isNumber_39 : decode cX8_isNumber 39 = .ok (.if_icmp .le 9, 3) := by decide +kernel
theorem dX8_isNumber_42 : decode cX8_isNumber 42 = .ok (.aload_n 0, 1) := by decide +kernel
theorem dX8_isNumber_43 : decode cX8_isNumber 43 = .ok (.iconst 3, 1) := by decide +kernel
theorem dX8_isNumber_44 : decode cX8_isNumber 44 = .ok (.invokevirtual 89, 3) := by decide +kernel
theorem dX8_isNumber_47 : decode cX8_isNumber 47 = .ok (.ireturn, 1) := by decide +kernel
theorem dX8_isNumber_48 : decode cX8_isNumber 48 = .ok (.iload_n 3, 1) := by decide +kernel
theorem dX8_isNumber_49 : decode cX8_isNumber 49 = .ok (.aload_n 0, 1) := by decide +kernel
theorem dX8_isNumber_50 : decode cX8_isNumber 50 = .ok (.getfield 18, 3) := by decide +kernel
theorem dX8_isNumber_53 : decode cX8_isNumber 53 = .ok (.getfield 139, 3) := by decide +kernel
theorem dX8_isNumber_56 : decode cX8_isNumber 56 = .ok (.ishr, 1) := by decide +kernel
theorem dX8_isNumber_57 : decode cX8_isNumber 57 = .ok (.iconst 1, 1) := by decide +kernel
theorem dX8_isNumber_58 : decode cX8_isNumber 58 = .ok (.iand, 1) := by decide +kernel
theorem dX8_isNumber_59 : decode cX8_isNumber 59 = .ok (.ifCond .eq 11, 3) := by decide +kernel
theorem dX8_isNumber_62 : decode cX8_isNumber 62 = .ok (.aload_n 0, 1) := by decide +kernel
theorem dX8_isNumber_63 : decode cX8_isNumber 63 = .ok (.iconst 4, 1) := by decide +kernel
theorem dX8_isNumber_64 : decode cX8_isNumber 64 = .ok (.invokevirtual 89, 3) := by decide +kernel
theorem dX8_isNumber_67 : decode cX8_isNumber 67 = .ok (.ifCond .eq 7, 3) := by decide +kernel
theorem dX8_isNumber_70 : decode cX8_isNumber 70 = .ok (.iconst 1, 1) := by decide +kernel
theorem dX8_isNumber_71 : decode cX8_isNumber 71 = .ok (.goto 4, 3) := by decide +kernel
theorem dX8_isNumber_74 : decode cX8_isNumber 74 = .ok (.iconst 0, 1) := by decide +kernel
theorem dX8_isNumber_75 : decode cX8_isNumber 75 = .ok (.ireturn, 1) := by decide +kernel
theorem dX8_nextStop_0 : decode cX8_nextStop 0 = .ok (.aload_n 0, 1) := by decide +kernel
theorem dX8_nextStop_1 : decode cX8_nextStop 1 = .ok (.getfield 18, 3) := by decide +kernel
theorem dX8_nextStop_4 : decode cX8_nextStop 4 = .ok (.invokevirtual 27, 3) := by decide +kernel
theorem dX8_nextStop_7 : decode cX8_nextStop 7 = .ok (.aload_n 0, 1) := by decide +kernel
theorem dX8_nextStop_8 : decode cX8_nextStop 8 = .ok (.getfield 18, 3) := by decide +kernel
theorem dX8_nextStop_11 : decode cX8_nextStop 11 = .ok (.getfield 30, 3) := by decide +kernel
theorem dX8_nextStop_14 : decode cX8_nextStop 14 = .ok (.iconst 3, 1) := by decide +kernel
theorem dX8_nextStop_15 : decode cX8_nextStop 15 = .ok (.if_icmp .eq 14, 3) := by decide +kernel
theorem dX8_nextStop_18 : decode cX8_nextStop 18 = .ok (.aload_n 0, 1) := by decide +kernel
theorem dX8_nextStop_19 : decode cX8_nextStop 19 = .ok (.aload_n 0, 1) := by decide +kernel
theorem dX8_nextStop_20 : decode cX8_nextStop 20 = .ok (.invokevirtual 131, 3) := by decide +kernel
theorem dX8_nextStop_23 : decode cX8_nextStop 23 = .ok (.invokevirtual 89, 3) := by decide +kernel
theorem dX8_nextStop_26 : decode cX8_nextStop 26 = .ok (.ifCond .eq 7, 3) := by decide +kernel
theorem dX8_nextStop_29 : decode cX8_nextStop 29 = .ok (.iconst 1, 1) := by decide +kernel
theorem dX8_nextStop_30 : decode cX8_nextStop 30 = .ok (.goto 4, 3) := by decide +kernel
theorem dX8_nextStop_33 : decode cX8_nextStop 33 = .ok (.iconst 0, 1) := by decide +kernel
theorem dX8_nextStop_34 : decode cX8_nextStop 34 = .ok (.ireturn, 1) := by decide +kernel
end
section
theorem dX9_init_0 : decode cX9_init 0 = .ok (.aload_n 0, 1) := by decide +kernel
theorem dX9_init_1 : decode cX9_init 1 = .ok (.invokespecial 1, 3) := by decide +kernel
theorem dX9_init_4 : decode cX9_init 4 = .ok (.aload_n 0, 1) := by decide +kernel
theorem dX9_init_5 : decode cX9_init 5 = .ok (.new 7, 3) := by decide +kernel
theorem dX9_init_8 : decode cX9_init 8 = .ok (.dup, 1) := by decide +kernel
theorem dX9_init_9 : decode cX9_init 9 = .ok (.invokespecial 9, 3) := by decide +kernel
theorem dX9_init_12 : decode cX9_init 12 = .ok (.putfield 10, 3) := by decide +kernel
theorem dX9_init_15 : decode cX9_init 15 = .ok (.aload_n 0, 1) := by decide +kernel
theorem dX9_init_16 : decode cX9_init 16 = .ok (.new 16, 3) := by decide +kernel
theorem dX9_init_19 : decode cX9_init 19 = .ok (.dup, 1) := by decide +kernel
theorem dX9_init_20 : decode cX9_init 20 = .ok (.invokespecial 18, 3) := by decide +kernel
theorem dX9_init_23 : decode cX9_init 23 = .ok (.putfield 19, 3) := by decide +kernel
theorem dX9_init_26 : decode cX9_init 26 = .ok (.aload_n 0, 1) := by decide +kernel
theorem dX9_init_27 : decode cX9_init 27 = .ok (.new 23, 3) := by decide +kernel
theorem dX9_init_30 : decode cX9_init 30 = .ok (.dup, 1) := by decide +kernel
theorem dX9_init_31 : decode cX9_init 31 = .ok (.invokespecial 25, 3) := by decide +kernel
theorem dX9_init_34 : decode cX9_init 34 = .ok (.putfield 26, 3) := by decide +kernel
theorem dX9_init_37 : decode cX9_init 37 = .ok (.aload_n 0, 1) := by decide +kernel
theorem dX9_init_38 : decode cX9_init 38 = .ok (.new 30, 3) := by decide +kernel
theorem dX9_init_41 : decode cX9_init 41 = .ok (.dup, 1) := by decide +kernel
theorem dX9_init_42 : decode cX9_init 42 = .ok (.aload_n 0, 1) := by decide +kernel
theorem dX9_init_43 : decode cX9_init 43 = .ok (.getfield 26, 3) := by decide +kernel
theorem dX9_init_46 : decode cX9_init 46 = .ok (.invokespecial 32, 3) := by decide +kernel
theorem dX9_init_49 : decode cX9_init 49 = .ok (.putfield 35, 3) := by decide +kernel
theorem dX9_init_52 : decode cX9_init 52 = .ok (.aload_n 0, 1) := by decide +kernel
theorem dX9_init_53 : decode cX9_init 53 = .ok (.new 39, 3) := by decide +kernel
theorem dX9_init_56 : decode cX9_init 56 = .ok (.dup, 1) := by decide +kernel
theorem dX9_init_57 : decode cX9_init 57 = .ok (.invokespecial 41, 3) := by decide +kernel
theorem dX9_init_60 : decode cX9_init 60 = .ok (.putfield 42, 3) := by decide +kernel
theorem dX9_init_63 : decode cX9_init 63 = .ok (.aload_n 0, 1) := by decide +kernel
theorem dX9_init_64 : decode cX9_init 64 = .ok (.new 46, 3) := by decide +kernel
theorem dX9_init_67 : decode cX9_init 67 = .ok (.dup, 1) := by decide +kernel
theorem dX9_init_68 : decode cX9_init 68 = .ok (.invokespecial 48, 3) := by decide +kernel
theorem dX9_init_71 : decode cX9_init 71 = .ok (.putfield 49, 3) := by decide +kernel
theorem dX9_init_74 : decode cX9_init 74 = .ok (.aload_n 0, 1) := by decide +kernel
theorem dX9_init_75 : decode cX9_init 75 = .ok (.new 53, 3) := by decide +kernel
theorem dX9_init_78 : decode cX9_init 78 = .ok (.dup, 1) := by decide +kernel
theorem dX9_init_79 : decode cX9_init 79 = .ok (.invokespecial 55, 3) := by decide +kernel
theorem dX9_init_82 : decode cX9_init 82 = .ok (.putfield 56, 3) := by decide +kernel
theorem dX9_init_85 : decode cX9_init 85 = .ok (.aload_n 0, 1) := by decide +kernel
theorem dX9_init_86 : decode cX9_init 86 = .ok (.new 60, 3) := by decide +kernel
theorem dX9_init_89 : decode cX9_init 89 = .ok (.dup, 1) := by decide +kernel
theorem dX9_init_90 : decode cX9_init 90 = .ok (.invokespecial 62, 3) := by decide +kernel
theorem dX9_init_93 : decode cX9_init 93 = .ok (.putfield 63, 3) := by decide +kernel
theorem dX9_init_96 : decode cX9_init 96 = .ok (.aload_n 0, 1) := by decide +kernel
theorem dX9_init_97 : decode cX9_init 97 = .ok (.iconst 2, 1) := by decide +kernel
theorem dX9_init_98 : decode cX9_init 98 = .ok (.anewarray 16, 3) := by decide +kernel
theorem dX9_init_101 : decode cX9_init 101 = .ok (.putfield 67, 3) := by decide +kernel
theorem dX9_init_104 : decode cX9_init 104 = .ok (.aload_n 0, 1) := by decide +kernel
theorem dX9_init_105 : decode cX9_init 105 = .ok (.iconst 4, 1) := by decide +kernel
theorem dX9_init_106 : decode cX9_init 106 = .ok (.anewarray 71, 3) := by decide +kernel
theorem dX9_init_109 : decode cX9_init 109 = .ok (.putfield 73, 3) := by decide +kernel
theorem dX9_init_112 : decode cX9_init 112 = .ok (.aload_n 0, 1) := by decide +kernel
theorem dX9_init_113 : decode cX9_init 113 = .ok (.new 16, 3) := by decide +kernel
theorem dX9_init_116 : decode cX9_init 116 = .ok (.dup, 1) := by decide +kernel
theorem dX9_init_117 : decode cX9_init 117 = .ok (.invokespecial 18, 3) := by decide +kernel
theorem dX9_init_120 : decode cX9_init 120 = .ok (.putfield 77, 3) := by decide +kernel
theorem dX9_init_123 : decode cX9_init 123 = .ok (.aload_n 0, 1) := by decide +kernel
theorem dX9_init_124 : decode cX9_init 124 = .ok (.getfield 10, 3) := by decide +kernel
theorem dX9_init_127 : decode cX9_init 127 = .ok (.iconst 2, 1) := by decide +kernel
theorem dX9_init_128 : decode cX9_init 128 = .ok (.iconst 2, 1) := by decide +kernel
theorem dX9_init_129 : decode cX9_init 129 = .ok (.invokevirtual 80, 3) := by decide +kernel
theorem dX9_init_132 : decode cX9_init 132 = .ok (.aload_n 0, 1) := by decide +kernel
theorem dX9_init_133 : decode cX9_init 133 = .ok (.getfield 19, 3) := by decide +kernel
theorem dX9_init_136 : decode cX9_init 136 = .ok (.aload_n 0, 1) := by decide +kernel
theorem dX9_init_137 : decode cX9_init 137 = .ok (.getfield 10, 3) := by decide +kernel
theorem dX9_init_140 : decode cX9_init 140 = .ok (.invokevirtual 84, 3) := by decide +kernel
theorem dX9_init_143 : decode cX9_init 143 = .ok (.invokevirtual 88, 3) := by decide +kernel
theorem dX9_init_146 : decode cX9_init 146 = .ok (.iconst 0, 1) := by decide +kernel
theorem dX9_init_147 : decode cX9_init 147 = .ok (.istore_n 1, 1) := by decide +kernel
theorem dX9_init_148 : decode cX9_init 148 = .ok (.iload_n 1, 1) := by decide +kernel
theorem dX9_init_149 : decode cX9_init 149 = .ok (.iconst 2, 1) := by decide +kernel
theorem dX9_init_150 : decode cX9_init 150 = .ok (.if_icmp .ge 22, 3) := by decide +kernel
theorem dX9_init_153 : decode cX9_init 153 = .ok (.aload_n 0, 1) := by decide +kernel
theorem dX9_init_154 : decode cX9_init 154 = .ok (.getfield 67, 3) := by decide +kernel
theorem dX9_init_157 : decode cX9_init 157 = .ok (.iload_n 1, 1) := by decide +kernel
theorem dX9_init_158 : decode cX9_init 158 = .ok (.new 16, 3) := by decide +kernel
theorem dX9_init_161 : decode cX9_init 161 = .ok (.dup, 1) := by decide +kernel
theorem dX9_init_162 : decode cX9_init 162 = .ok (.invokespecial 18, 3) := by decide +kernel
theorem dX9_init_165 : decode cX9_init 165 = .ok (.aastore, 1) := by decide +kernel
theorem dX9_init_166 : decode cX9_init 166 = .ok (.iinc 1 1, 3) := by decide +kernel
theorem dX9_init_169 : decode cX9_init 169 = .ok (.goto (-21), 3) := by decide +kernel
theorem dX9_init_172 : decode cX9_init 172 = .ok (.aload_n 0, 1) := by decide +kernel
theorem dX9_init_173 : decode cX9_init 173 = .ok (.getfield 77, 3) := by decide +kernel
theorem dX9_init_176 : decode cX9_init 176 = .ok (.iconst 0, 1) := by decide +kernel
theorem dX9_init_177 : decode cX9_init 177 = .ok (.invokevirtual 88, 3) := by decide +kernel
theorem dX9_init_180 : decode cX9_init 180 = .ok (.return_, 1) := by decide +kernel
theorem dX9_feed_0 : decode cX9_feed 0 = .ok (.aload_n 0, 1) := by decide +kernel
theorem dX9_feed_1 : decode cX9_feed 1 = .ok (.getfield 26, 3) := by decide +kernel
theorem dX9_feed_4 : decode cX9_feed 4 = .ok (.lload_n 1, 1) := by decide +kernel
theorem dX9_feed_5 : decode cX9_feed 5 = .ok (.invokevirtual 92, 3) := by decide +kernel
theorem dX9_feed_8 : decode cX9_feed 8 = .ok (.ifCond .eq 13, 3) := by decide +kernel
theorem dX9_feed_11 : decode cX9_feed 11 = .ok (.aload_n 0, 1) := by decide +kernel
theorem dX9_feed_12 : decode cX9_feed 12 = .ok (.getfield 26, 3) := by decide +kernel
theorem dX9_feed_15 : decode cX9_feed 15 = .ok (.getfield 96, 3) := by decide +kernel
theorem dX9_feed_18 : decode cX9_feed 18 = .ok (.goto 5, 3) := by decide +kernel
theorem dX9_feed_21 : decode cX9_feed 21 = .ok (.bipush (-3), 2) := by decide +kernel
theorem dX9_feed_23 : decode cX9_feed 23 = .ok (.ireturn, 1) := by decide +kernel
theorem dX9_end_0 : decode cX9_end 0 = .ok (.iload_n 1, 1) := by decide +kernel
theorem dX9_end_1 : decode cX9_end 1 = .ok (.ifCond .lt 14, 3) := by decide +kernel
theorem dX9_end_4 : decode cX9_end 4 = .ok (.iload_n 1, 1) := by decide +kernel
theorem dX9_end_5 : decode cX9_end 5 = .ok (.aload_n 0, 1) := by decide +kernel
theorem dX9_end_6 : decode cX9_end 6 = .ok (.getfield 26, 3) := by decide +kernel
theorem dX9_end_9 : decode cX9_end 9 = .ok (.getfield 96, 3) := by decide +kernel
theorem dX9_end_12 : decode cX9_end 12 = .ok (.if_icmp .le 5, 3) := by decide +kernel
theorem dX9_end_15 : decode cX9_end 15 = .ok (.iconst (-1), 1) := by decide +kernel
theorem dX9_end_16 : decode cX9_end 16 = .ok (.ireturn, 1) := by decide +kernel
theorem dX9_end_17 : decode cX9_end 17 = .ok (.aload_n 0, 1) := by decide +kernel
theorem dX9_end_18 : decode cX9_end 18 = .ok (.getfield 26, 3) := by decide +kernel
theorem dX9_end_21 : decode cX9_end 21 = .ok (.getfield 96, 3) := by decide +kernel
theorem dX9_end_24 : decode cX9_end 24 = .ok (.istore_n 2, 1) := by decide +kernel
theorem dX9_end_25 : decode cX9_end 25 = .ok (.aload_n 0, 1) := by decide +kernel
theorem dX9_end_26 : decode cX9_end 26 = .ok (.getfield 26, 3) := by decide +kernel
theorem dX9_end_29 : decode cX9_end 29 = .ok (.iload_n 1, 1) := by decide +kernel
theorem dX9_end_30 : decode cX9_end 30 = .ok (.putfield 96, 3) := by decide +kernel
theorem dX9_end_33 : decode cX9_end 33 = .ok (.iload_n 2, 1) := by decide +kernel
theorem dX9_end_34 : decode cX9_end 34 = .ok (.ireturn, 1) := by decide +kernel
theorem dX9_text_0 : decode cX9_text 0 = .ok (.aload_n 0, 1) := by decide +kernel
theorem dX9_text_1 : decode cX9_text 1 = .ok (.getfield 35, 3) := by decide +kernel
theorem dX9_text_4 : decode cX9_text 4 = .ok (.invokevirtual 100, 3) := by decide +kernel
theorem dX9_text_7 : decode cX9_text 7 = .ok (.istore_n 1, 1) := by decide +kernel
theorem dX9_text_8 : decode cX9_text 8 = .ok (.aload_n 0, 1) := by decide +kernel
theorem dX9_text_9 : decode cX9_text 9 = .ok (.getfield 26, 3) := by decide +kernel
theorem dX9_text_12 : decode cX9_text 12 = .ok (.iconst 0, 1) := by decide +kernel
theorem dX9_text_13 : decode cX9_text 13 = .ok (.putfield 96, 3) := by decide +kernel
theorem dX9_text_16 : decode cX9_text 16 = .ok (.iload_n 1, 1) := by decide +kernel
theorem dX9_text_17 : decode cX9_text 17 = .ok (.ifCond .ne 14, 3) := by decide +kernel
theorem dX9_text_20 : decode cX9_text 20 = .ok (.bipush (-10), 2) := by decide +kernel
theorem dX9_text_22 : decode cX9_text 22 = .ok (.aload_n 0, 1) := by decide +kernel
theorem dX9_text_23 : decode cX9_text 23 = .ok (.getfield 35, 3) := by decide +kernel
theorem dX9_text_26 : decode cX9_text 26 = .ok (.getfield 104, 3) := by decide +kernel
theorem dX9_text_29 : decode cX9_text 29 = .ok (.isub, 1) := by decide +kernel
theorem dX9_text_30 : decode cX9_text 30 = .ok (.ireturn, 1) := by decide +kernel
theorem dX9_text_31 : decode cX9_text 31 = .ok (.aload_n 0, 1) := by decide +kernel
theorem dX9_text_32 : decode cX9_text 32 = .ok (.getfield 10, 3) := by decide +kernel
theorem dX9_text_35 : decode cX9_text 35 = .ok (.aload_n 0, 1) := by decide +kernel
theorem dX9_text_36 : decode cX9_text 36 = .ok (.getfield 35, 3) := by decide +kernel
theorem dX9_text_39 : decode cX9_text 39 = .ok (.getfield 107, 3) := by decide +kernel
theorem dX9_text_42 : decode cX9_text 42 = .ok (.aload_n 0, 1) := by decide +kernel
theorem dX9_text_43 : decode cX9_text 43 = .ok (.getfield 35, 3) := by decide +kernel
theorem dX9_text_46 : decode cX9_text 46 = .ok (.getfield 110, 3) := by decide +kernel
theorem dX9_text_49 : decode cX9_text 49 = .ok (.invokevirtual 80, 3) := by decide +kernel
theorem dX9_text_52 : decode cX9_text 52 = .ok (.aload_n 0, 1) := by decide +kernel
theorem dX9_text_53 : decode cX9_text 53 = .ok (.getfield 19, 3) := by decide +kernel
theorem dX9_text_56 : decode cX9_text 56 = .ok (.aload_n 0, 1) := by decide +kernel
theorem dX9_text_57 : decode cX9_text 57 = .ok (.getfield 35, 3) := by decide +kernel
theorem dX9_text_60 : decode cX9_text 60 = .ok (.getfield 113, 3) := by decide +kernel
theorem dX9_text_63 : decode cX9_text 63 = .ok (.invokevirtual 116, 3) := by decide +kernel
theorem dX9_text_66 : decode cX9_text 66 = .ok (.aload_n 0, 1) := by decide +kernel
theorem dX9_text_67 : decode cX9_text 67 = .ok (.iconst 0, 1) := by decide +kernel
theorem dX9_text_68 : decode cX9_text 68 = .ok (.putfield 120, 3) := by decide +kernel
theorem dX9_text_71 : decode cX9_text 71 = .ok (.aload_n 0, 1) := by decide +kernel
theorem dX9_text_72 : decode cX9_text 72 = .ok (.getfield 35, 3) := by decide +kernel
theorem dX9_text_75 : decode cX9_text 75 = .ok (.getfield 123, 3) := by decide +kernel
theorem dX9_text_78 : decode cX9_text 78 = .ok (.ireturn, 1) := by decide +kernel
theorem dX9_fault_0 : decode cX9_fault 0 = .ok (.aload_n 0, 1) := by decide +kernel
theorem dX9_fault_1 : decode cX9_fault 1 = .ok (.getfield 35, 3) := by decide +kernel
theorem dX9_fault_4 : decode cX9_fault 4 = .ok (.getfield 126, 3) := by decide +kernel
theorem dX9_fault_7 : decode cX9_fault 7 = .ok (.ireturn, 1) := by decide +kernel
theorem dX9_rule_0 : decode cX9_rule 0 = .ok (.iload_n 1, 1) := by decide +kernel
theorem dX9_rule_1 : decode cX9_rule 1 = .ok (.tableswitch 87 0 5 #[39, 47, 55, 63, 71, 79], 39) := by decide +kernel
theorem dX9_rule_40 : decode cX9_rule 40 = .ok (.aload_n 0, 1) := by decide +kernel
theorem dX9_rule_41 : decode cX9_rule 41 = .ok (.getfield 10, 3) := by decide +kernel
theorem dX9_rule_44 : decode cX9_rule 44 = .ok (.getfield 129, 3) := by decide +kernel
theorem dX9_rule_47 : decode cX9_rule 47 = .ok (.ireturn, 1) := by decide +kernel
theorem dX9_rule_48 : decode cX9_rule 48 = .ok (.aload_n 0, 1) := by decide +kernel
theorem dX9_rule_49 : decode cX9_rule 49 = .ok (.getfield 10, 3) := by decide +kernel
theorem dX9_rule_52 : decode cX9_rule 52 = .ok (.getfield 130, 3) := by decide +kernel
theorem dX9_rule_55 : decode cX9_rule 55 = .ok (.ireturn, 1) := by decide +kernel
theorem dX9_rule_56 : decode cX9_rule 56 = .ok (.aload_n 0, 1) := by decide +kernel
theorem dX9_rule_57 : decode cX9_rule 57 = .ok (.getfield 10, 3) := by decide +kernel
theorem dX9_rule_60 : decode cX9_rule 60 = .ok (.getfield 131, 3) := by decide +kernel
theorem dX9_rule_63 : decode cX9_rule 63 = .ok (.ireturn, 1) := by decide +kernel
theorem dX9_rule_64 : decode cX9_rule 64 = .ok (.aload_n 0, 1) := by decide +kernel
theorem dX9_rule_65 : decode cX9_rule 65 = .ok (.getfield 10, 3) := by decide +kernel
theorem dX9_rule_68 : decode cX9_rule 68 = .ok (.getfield 134, 3) := by decide +kernel
theorem dX9_rule_71 : decode cX9_rule 71 = .ok (.ireturn, 1) := by decide +kernel
theorem dX9_rule_72 : decode cX9_rule 72 = .ok (.aload_n 0, 1) := by decide +kernel
theorem dX9_rule_73 : decode cX9_rule 73 = .ok (.getfield 19, 3) := by decide +kernel
theorem dX9_rule_76 : decode cX9_rule 76 = .ok (.getfield 137, 3) := by decide +kernel
theorem dX9_rule_79 : decode cX9_rule 79 = .ok (.ireturn, 1) := by decide +kernel
theorem dX9_rule_80 : decode cX9_rule 80 = .ok (.aload_n 0, 1) := by decide +kernel
theorem dX9_rule_81 : decode cX9_rule 81 = .ok (.getfield 19, 3) := by decide +kernel
theorem dX9_rule_84 : decode cX9_rule 84 = .ok (.getfield 140, 3) := by decide +kernel
theorem dX9_rule_87 : decode cX9_rule 87 = .ok (.ireturn, 1) := by decide +kernel
theorem dX9_rule_88 : decode cX9_rule 88 = .ok (.iconst (-1), 1) := by decide +kernel
theorem dX9_rule_89 : decode cX9_rule 89 = .ok (.ireturn, 1) := by decide +kernel
theorem dX9_square_0 : decode cX9_square 0 = .ok (.iload_n 1, 1) := by decide +kernel
theorem dX9_square_1 : decode cX9_square 1 = .ok (.ifCond .lt 14, 3) := by decide +kernel
theorem dX9_square_4 : decode cX9_square 4 = .ok (.iload_n 1, 1) := by decide +kernel
theorem dX9_square_5 : decode cX9_square 5 = .ok (.aload_n 0, 1) := by decide +kernel
theorem dX9_square_6 : decode cX9_square 6 = .ok (.getfield 10, 3) := by decide +kernel
theorem dX9_square_9 : decode cX9_square 9 = .ok (.getfield 134, 3) := by decide +kernel
theorem dX9_square_12 : decode cX9_square 12 = .ok (.if_icmp .lt 5, 3) := by decide +kernel
theorem dX9_square_15 : decode cX9_square 15 = .ok (.iconst (-1), 1) := by decide +kernel
theorem dX9_square_16 : decode cX9_square 16 = .ok (.ireturn, 1) := by decide +kernel
theorem dX9_square_17 : decode cX9_square 17 = .ok (.iload_n 2, 1) := by decide +kernel
theorem dX9_square_18 : decode cX9_square 18 = .ok (.tableswitch 93 0 4 #[34, 44, 54, 64, 74], 34) := by decide +kernel
theorem dX9_square_52 : decode cX9_square 52 = .ok (.aload_n 0, 1) := by decide +kernel
theorem dX9_square_53 : decode cX9_square 53 = .ok (.getfield 10, 3) := by decide +kernel
theorem dX9_square_56 : decode cX9_square 56 = .ok (.getfield 143, 3) := by decide +kernel
theorem dX9_square_59 : decode cX9_square 59 = .ok (.iload_n 1, 1) := by decide +kernel
theorem dX9_square_60 : decode cX9_square 60 = .ok (.iaload, 1) := by decide +kernel
theorem dX9_square_61 : decode cX9_square 61 = .ok (.ireturn, 1) := by decide +kernel
theorem dX9_square_62 : decode cX9_square 62 = .ok (.aload_n 0, 1) := by decide +kernel
theorem dX9_square_63 : decode cX9_square 63 = .ok (.getfield 10, 3) := by decide +kernel
theorem dX9_square_66 : decode cX9_square 66 = .ok (.getfield 147, 3) := by decide +kernel
theorem dX9_square_69 : decode cX9_square 69 = .ok (.iload_n 1, 1) := by decide +kernel
theorem dX9_square_70 : decode cX9_square 70 = .ok (.iaload, 1) := by decide +kernel
theorem dX9_square_71 : decode cX9_square 71 = .ok (.ireturn, 1) := by decide +kernel
theorem dX9_square_72 : decode cX9_square 72 = .ok (.aload_n 0, 1) := by decide +kernel
theorem dX9_square_73 : decode cX9_square 73 = .ok (.getfield 10, 3) := by decide +kernel
theorem dX9_square_76 : decode cX9_square 76 = .ok (.getfield 150, 3) := by decide +kernel
theorem dX9_square_79 : decode cX9_square 79 = .ok (.iload_n 1, 1) := by decide +kernel
theorem dX9_square_80 : decode cX9_square 80 = .ok (.iaload, 1) := by decide +kernel
theorem dX9_square_81 : decode cX9_square 81 = .ok (.ireturn, 1) := by decide +kernel
theorem dX9_square_82 : decode cX9_square 82 = .ok (.aload_n 0, 1) := by decide +kernel
theorem dX9_square_83 : decode cX9_square 83 = .ok (.getfield 10, 3) := by decide +kernel
theorem dX9_square_86 : decode cX9_square 86 = .ok (.getfield 153, 3) := by decide +kernel
theorem dX9_square_89 : decode cX9_square 89 = .ok (.iload_n 1, 1) := by decide +kernel
theorem dX9_square_90 : decode cX9_square 90 = .ok (.iaload, 1) := by decide +kernel
theorem dX9_square_91 : decode cX9_square 91 = .ok (.ireturn, 1) := by decide +kernel
theorem dX9_square_92 : decode cX9_square 92 = .ok (.aload_n 0, 1) := by decide +kernel
theorem dX9_square_93 : decode cX9_square 93 = .ok (.getfield 10, 3) := by decide +kernel
theorem dX9_square_96 : decode cX9_square 96 = .ok (.aload_n 0, 1) := by decide +kernel
theorem dX9_square_97 : decode cX9_square 97 = .ok (.getfield 19, 3) := by decide +kernel
theorem dX9_square_100 : decode cX9_square 100 = .ok (.getfield 137, 3) := by decide +kernel
theorem dX9_square_103 : decode cX9_square 103 = .ok (.invokevirtual 156, 3) := by decide +kernel
theorem dX9_square_106 : decode cX9_square 106 = .ok (.iload_n 1, 1) := by decide +kernel
theorem dX9_square_107 : decode cX9_square 107 = .ok (.ishr, 1) := by decide +kernel
theorem dX9_square_108 : decode cX9_square 108 = .ok (.iconst 1, 1) := by decide +kernel
theorem dX9_square_109 : decode cX9_square 109 = .ok (.iand, 1) := by decide +kernel
theorem dX9_square_110 : decode cX9_square 110 = .ok (.ireturn, 1) := by decide +kernel
theorem dX9_square_111 : decode cX9_square 111 = .ok (.iconst (-1), 1) := by decide +kernel
theorem dX9_square_112 : decode cX9_square 112 = .ok (.ireturn, 1) := by decide +kernel
theorem dX9_cost_0 : decode cX9_cost 0 = .ok (.aload_n 0, 1) := by decide +kernel
theorem dX9_cost_1 : decode cX9_cost 1 = .ok (.iload_n 1, 1) := by decide +kernel
theorem dX9_cost_2 : decode cX9_cost 2 = .ok (.invokevirtual 160, 3) := by decide +kernel
theorem dX9_cost_5 : decode cX9_cost 5 = .ok (.ifCond .eq 15, 3) := by decide +kernel
theorem dX9_cost_8 : decode cX9_cost 8 = .ok (.aload_n 0, 1) := by decide +kernel
theorem dX9_cost_9 : decode cX9_cost 9 = .ok (.getfield 19, 3) := by decide +kernel
theorem dX9_cost_12 : decode cX9_cost 12 = .ok (.getfield 164, 3) := by decide +kernel
theorem dX9_cost_15 : decode cX9_cost 15 = .ok (.iload_n 1, 1) := by decide +kernel
theorem dX9_cost_16 : decode cX9_cost 16 = .ok (.iaload, 1) := by decide +kernel
theorem dX9_cost_17 : decode cX9_cost 17 = .ok (.goto 4, 3) := by decide +kernel
theorem dX9_cost_20 : decode cX9_cost 20 = .ok (.iconst (-1), 1) := by decide +kernel
theorem dX9_cost_21 : decode cX9_cost 21 = .ok (.ireturn, 1) := by decide +kernel
theorem dX9_whole_0 : decode cX9_whole 0 = .ok (.iload_n 1, 1) := by decide +kernel
theorem dX9_whole_1 : decode cX9_whole 1 = .ok (.invokestatic 167, 3) := by decide +kernel
theorem dX9_whole_4 : decode cX9_whole 4 = .ok (.ifCond .eq 33, 3) := by decide +kernel
theorem dX9_whole_7 : decode cX9_whole 7 = .ok (.aload_n 0, 1) := by decide +kernel
theorem dX9_whole_8 : decode cX9_whole 8 = .ok (.getfield 10, 3) := by decide +kernel
theorem dX9_whole_11 : decode cX9_whole 11 = .ok (.aload_n 0, 1) := by decide +kernel
theorem dX9_whole_12 : decode cX9_whole 12 = .ok (.getfield 19, 3) := by decide +kernel
theorem dX9_whole_15 : decode cX9_whole 15 = .ok (.getfield 137, 3) := by decide +kernel
theorem dX9_whole_18 : decode cX9_whole 18 = .ok (.invokevirtual 156, 3) := by decide +kernel
theorem dX9_whole_21 : decode cX9_whole 21 = .ok (.aload_n 0, 1) := by decide +kernel
theorem dX9_whole_22 : decode cX9_whole 22 = .ok (.getfield 10, 3) := by decide +kernel
theorem dX9_whole_25 : decode cX9_whole 25 = .ok (.getfield 170, 3) := by decide +kernel
theorem dX9_whole_28 : decode cX9_whole 28 = .ok (.iload_n 1, 1) := by decide +kernel
theorem dX9_whole_29 : decode cX9_whole 29 = .ok (.iaload, 1) := by decide +kernel
theorem dX9_whole_30 : decode cX9_whole 30 = .ok (.iand, 1) := by decide +kernel
theorem dX9_whole_31 : decode cX9_whole 31 = .ok (.invokestatic 173, 3) := by decide +kernel
theorem dX9_whole_34 : decode cX9_whole 34 = .ok (.goto 4, 3) := by decide +kernel
theorem dX9_whole_37 : decode cX9_whole 37 = .ok (.iconst (-1), 1) := by decide +kernel
theorem dX9_whole_38 : decode cX9_whole 38 = .ok (.ireturn, 1) := by decide +kernel
theorem dX9_left_0 : decode cX9_left 0 = .ok (.aload_n 0, 1) := by decide +kernel
theorem dX9_left_1 : decode cX9_left 1 = .ok (.aload_n 0, 1) := by decide +kernel
theorem dX9_left_2 : decode cX9_left 2 = .ok (.getfield 19, 3) := by decide +kernel
theorem dX9_left_5 : decode cX9_left 5 = .ok (.getfield 137, 3) := by decide +kernel
theorem dX9_left_8 : decode cX9_left 8 = .ok (.invokevirtual 178, 3) := by decide +kernel
theorem dX9_left_11 : decode cX9_left 11 = .ok (.ireturn, 1) := by decide +kernel
theorem dX9_take_0 : decode cX9_take 0 = .ok (.aload_n 0, 1) := by decide +kernel
theorem dX9_take_1 : decode cX9_take 1 = .ok (.iload_n 1, 1) := by decide +kernel
theorem dX9_take_2 : decode cX9_take 2 = .ok (.invokevirtual 181, 3) := by decide +kernel
theorem dX9_take_5 : decode cX9_take 5 = .ok (.istore_n 2, 1) := by decide +kernel
theorem dX9_take_6 : decode cX9_take 6 = .ok (.iload_n 2, 1) := by decide +kernel
theorem dX9_take_7 : decode cX9_take 7 = .ok (.ifCond .ge 7, 3) := by decide +kernel
theorem dX9_take_10 : decode cX9_take 10 = .ok (.iload_n 2, 1) := by decide +kernel
theorem dX9_take_11 : decode cX9_take 11 = .ok (.goto 14, 3) := by decide +kernel
theorem dX9_take_14 : decode cX9_take 14 = .ok (.aload_n 0, 1) := by decide +kernel
theorem dX9_take_15 : decode cX9_take 15 = .ok (.aload_n 0, 1) := by decide +kernel
theorem dX9_take_16 : decode cX9_take 16 = .ok (.getfield 19, 3) := by decide +kernel
theorem dX9_take_19 : decode cX9_take 19 = .ok (.getfield 137, 3) := by decide +kernel
theorem dX9_take_22 : decode cX9_take 22 = .ok (.invokevirtual 178, 3) := by decide +kernel
theorem dX9_take_25 : decode cX9_take 25 = .ok (.ireturn, 1) := by decide +kernel
theorem dX9_lie_0 : decode cX9_lie 0 = .ok (.aload_n 0, 1) := by decide +kernel
theorem dX9_lie_1 : decode cX9_lie 1 = .ok (.iload_n 1, 1) := by decide +kernel
theorem dX9_lie_2 : decode cX9_lie 2 = .ok (.invokevirtual 160, 3) := by decide +kernel
theorem dX9_lie_5 : decode cX9_lie 5 = .ok (.ifCond .ne 5, 3) := by decide +kernel
theorem dX9_lie_8 : decode cX9_lie 8 = .ok (.iconst (-1), 1) := by decide +kernel
theorem dX9_lie_9 : decode cX9_lie 9 = .ok (.ireturn, 1) := by decide +kernel
theorem dX9_lie_10 : decode cX9_lie 10 = .ok (.aload_n 0, 1) := by decide +kernel
theorem dX9_lie_11 : decode cX9_lie 11 = .ok (.iload_n 1, 1) := by decide +kernel
theorem dX9_lie_12 : decode cX9_lie 12 = .ok (.invokevirtual 184, 3) := by decide +kernel
theorem dX9_lie_15 : decode cX9_lie 15 = .ok (.ifCond .eq 6, 3) := by decide +kernel
theorem dX9_lie_18 : decode cX9_lie 18 = .ok (.bipush (-2), 2) := by decide +kernel
theorem dX9_lie_20 : decode cX9_lie 20 = .ok (.ireturn, 1) := by decide +kernel
theorem dX9_lie_21 : decode cX9_lie 21 = .ok (.aload_n 0, 1) := by decide +kernel
theorem dX9_lie_22 : decode cX9_lie 22 = .ok (.getfield 19, 3) := by decide +kernel
theorem dX9_lie_25 : decode cX9_lie 25 = .ok (.dup, 1) := by decide +kernel
theorem dX9_lie_26 : decode cX9_lie 26 = .ok (.getfield 137, 3) := by decide +kernel
theorem dX9_lie_29 : decode cX9_lie 29 = .ok (.iconst 1, 1) := by decide +kernel
theorem dX9_lie_30 : decode cX9_lie 30 = .ok (.iload_n 1, 1) := by decide +kernel
theorem dX9_lie_31 : decode cX9_lie 31 = .ok (.ishl, 1) := by decide +kernel
theorem dX9_lie_32 : decode cX9_lie 32 = .ok (.ior, 1) := by decide +kernel
theorem dX9_lie_33 : decode cX9_lie 33 = .ok (.putfield 137, 3) := by decide +kernel
theorem dX9_lie_36 : decode cX9_lie 36 = .ok (.aload_n 0, 1) := by decide +kernel
theorem dX9_lie_37 : decode cX9_lie 37 = .ok (.aload_n 0, 1) := by decide +kernel
theorem dX9_lie_38 : decode cX9_lie 38 = .ok (.getfield 19, 3) := by decide +kernel
theorem dX9_lie_41 : decode cX9_lie 41 = .ok (.getfield 137, 3) := by decide +kernel
theorem dX9_lie_44 : decode cX9_lie 44 = .ok (.invokevirtual 178, 3) := by decide +kernel
theorem dX9_lie_47 : decode cX9_lie 47 = .ok (.ireturn, 1) := by decide +kernel
theorem dX9_price_0 : decode cX9_price 0 = .ok (.aload_n 0, 1) := by decide +kernel
theorem dX9_price_1 : decode cX9_price 1 = .ok (.iload_n 1, 1) := by decide +kernel
theorem dX9_price_2 : decode cX9_price 2 = .ok (.invokevirtual 160, 3) := by decide +kernel
theorem dX9_price_5 : decode cX9_price 5 = .ok (.ifCond .eq 14, 3) := by decide +kernel
theorem dX9_price_8 : decode cX9_price 8 = .ok (.iload_n 2, 1) := by decide +kernel
theorem dX9_price_9 : decode cX9_price 9 = .ok (.iconst 1, 1) := by decide +kernel
theorem dX9_price_10 : decode cX9_price 10 = .ok (.if_icmp .lt 9, 3) := by decide +kernel
theorem dX9_price_13 : decode cX9_price 13 = .ok (.iload_n 2, 1) := by decide +kernel
theorem dX9_price_14 : decode cX9_price 14 = .ok (.bipush 9, 2) := by decide +kernel
theorem dX9_price_16 : decode cX9_price 16 = .ok (.if_icmp .le 5, 3) := by decide +kernel
theorem dX9_price_19 : decode cX9_price 19 = .ok (.iconst (-1), 1) := by decide +kernel
theorem dX9_price_20 : decode cX9_price 20 = .ok (.ireturn, 1) := by decide +kernel
theorem dX9_price_21 : decode cX9_price 21 = .ok (.aload_n 0, 1) := by decide +kernel
theorem dX9_price_22 : decode cX9_price 22 = .ok (.getfield 19, 3) := by decide +kernel
theorem dX9_price_25 : decode cX9_price 25 = .ok (.getfield 164, 3) := by decide +kernel
theorem dX9_price_28 : decode cX9_price 28 = .ok (.iload_n 1, 1) := by decide +kernel
theorem dX9_price_29 : decode cX9_price 29 = .ok (.iaload, 1) := by decide +kernel
theorem dX9_price_30 : decode cX9_price 30 = .ok (.istore_n 3, 1) := by decide +kernel
theorem dX9_price_31 : decode cX9_price 31 = .ok (.aload_n 0, 1) := by decide +kernel
theorem dX9_price_32 : decode cX9_price 32 = .ok (.getfield 19, 3) := by decide +kernel
theorem dX9_price_35 : decode cX9_price 35 = .ok (.getfield 164, 3) := by decide +kernel
theorem dX9_price_38 : decode cX9_price 38 = .ok (.iload_n 1, 1) := by decide +kernel
theorem dX9_price_39 : decode cX9_price 39 = .ok (.iload_n 2, 1) := by decide +kernel
theorem dX9_price_40 : decode cX9_price 40 = .ok (.iastore, 1) := by decide +kernel
theorem dX9_price_41 : decode cX9_price 41 = .ok (.iload_n 3, 1) := by decide +kernel
theorem dX9_price_42 : decode cX9_price 42 = .ok (.ireturn, 1) := by decide +kernel
theorem dX9_counts_0 : decode cX9_counts 0 = .ok (.iload_n 1, 1) := by decide +kernel
theorem dX9_counts_1 : decode cX9_counts 1 = .ok (.invokestatic 167, 3) := by decide +kernel
theorem dX9_counts_4 : decode cX9_counts 4 = .ok (.ifCond .ne 5, 3) := by decide +kernel
theorem dX9_counts_7 : decode cX9_counts 7 = .ok (.iconst (-1), 1) := by decide +kernel
theorem dX9_counts_8 : decode cX9_counts 8 = .ok (.ireturn, 1) := by decide +kernel
theorem dX9_counts_9 : decode cX9_counts 9 = .ok (.aload_n 0, 1) := by decide +kernel
theorem dX9_counts_10 : decode cX9_counts 10 = .ok (.getfield 19, 3) := by decide +kernel
theorem dX9_counts_13 : decode cX9_counts 13 = .ok (.getfield 140, 3) := by decide +kernel
theorem dX9_counts_16 : decode cX9_counts 16 = .ok (.iload_n 1, 1) := by decide +kernel
theorem dX9_counts_17 : decode cX9_counts 17 = .ok (.ishr, 1) := by decide +kernel
theorem dX9_counts_18 : decode cX9_counts 18 = .ok (.iconst 1, 1) := by decide +kernel
theorem dX9_counts_19 : decode cX9_counts 19 = .ok (.iand, 1) := by decide +kernel
theorem dX9_counts_20 : decode cX9_counts 20 = .ok (.istore_n 3, 1) := by decide +kernel
theorem dX9_counts_21 : decode cX9_counts 21 = .ok (.aload_n 0, 1) := by decide +kernel
theorem dX9_counts_22 : decode cX9_counts 22 = .ok (.getfield 19, 3) := by decide +kernel
theorem dX9_counts_25 : decode cX9_counts 25 = .ok (.iload_n 2, 1) := by decide +kernel
theorem dX9_counts_26 : decode cX9_counts 26 = .ok (.ifCond .eq 17, 3) := by decide +kernel
theorem dX9_counts_29 : decode cX9_counts 29 = .ok (.aload_n 0, 1) := by decide +kernel
theorem dX9_counts_30 : decode cX9_counts 30 = .ok (.getfield 19, 3) := by decide +kernel
theorem dX9_counts_33 : decode cX9_counts 33 = .ok (.getfield 140, 3) := by decide +kernel
theorem dX9_counts_36 : decode cX9_counts 36 = .ok (.iconst 1, 1) := by decide +kernel
theorem dX9_counts_37 : decode cX9_counts 37 = .ok (.iload_n 1, 1) := by decide +kernel
theorem dX9_counts_38 : decode cX9_counts 38 = .ok (.ishl, 1) := by decide +kernel
theorem dX9_counts_39 : decode cX9_counts 39 = .ok (.ior, 1) := by decide +kernel
theorem dX9_counts_40 : decode cX9_counts 40 = .ok (.goto 16, 3) := by decide +kernel
theorem dX9_counts_43 : decode cX9_counts 43 = .ok (.aload_n 0, 1) := by decide +kernel
theorem dX9_counts_44 : decode cX9_counts 44 = .ok (.getfield 19, 3) := by decide +kernel
theorem dX9_counts_47 : decode cX9_counts 47 = .ok (.getfield 140, 3) := by decide +kernel
theorem dX9_counts_50 : decode cX9_counts 50 = .ok (.iconst 1, 1) := by decide +kernel
theorem dX9_counts_51 : decode cX9_counts 51 = .ok (.iload_n 1, 1) := by decide +kernel
theorem dX9_counts_52 : decode cX9_counts 52 = .ok (.ishl, 1) := by decide +kernel
theorem dX9_counts_53 : decode cX9_counts 53 = .ok (.iconst (-1), 1) := by decide +kernel
theorem dX9_counts_54 : decode cX9_counts 54 = .ok (.ixor, 1) := by decide +kernel
theorem dX9_counts_55 : decode cX9_counts 55 = .ok (.iand, 1) := by decide +kernel
theorem dX9_counts_56 : decode cX9_counts 56 = .ok (.putfield 140, 3) := by decide +kernel
theorem dX9_counts_59 : decode cX9_counts 59 = .ok (.iload_n 3, 1) := by decide +kernel
theorem dX9_counts_60 : decode cX9_counts 60 = .ok (.ireturn, 1) := by decide +kernel
theorem dX9_fewest_0 : decode cX9_fewest 0 = .ok (.iload_n 1, 1) := by decide +kernel
theorem dX9_fewest_1 : decode cX9_fewest 1 = .ok (.ifCond .lt 8, 3) := by decide +kernel
theorem dX9_fewest_4 : decode cX9_fewest 4 = .ok (.iload_n 1, 1) := by decide +kernel
theorem dX9_fewest_5 : decode cX9_fewest 5 = .ok (.iconst 2, 1) := by decide +kernel
theorem dX9_fewest_6 : decode cX9_fewest 6 = .ok (.if_icmp .le 5, 3) := by decide +kernel
theorem dX9_fewest_9 : decode cX9_fewest 9 = .ok (.iconst (-1), 1) := by decide +kernel
theorem dX9_fewest_10 : decode cX9_fewest 10 = .ok (.ireturn, 1) := by decide +kernel
theorem dX9_fewest_11 : decode cX9_fewest 11 = .ok (.aload_n 0, 1) := by decide +kernel
theorem dX9_fewest_12 : decode cX9_fewest 12 = .ok (.getfield 42, 3) := by decide +kernel
theorem dX9_fewest_15 : decode cX9_fewest 15 = .ok (.aload_n 0, 1) := by decide +kernel
theorem dX9_fewest_16 : decode cX9_fewest 16 = .ok (.getfield 10, 3) := by decide +kernel
theorem dX9_fewest_19 : decode cX9_fewest 19 = .ok (.aload_n 0, 1) := by decide +kernel
theorem dX9_fewest_20 : decode cX9_fewest 20 = .ok (.aload_n 0, 1) := by decide +kernel
theorem dX9_fewest_21 : decode cX9_fewest 21 = .ok (.getfield 19, 3) := by decide +kernel
theorem dX9_fewest_24 : decode cX9_fewest 24 = .ok (.getfield 137, 3) := by decide +kernel
theorem dX9_fewest_27 : decode cX9_fewest 27 = .ok (.invokevirtual 187, 3) := by decide +kernel
theorem dX9_fewest_30 : decode cX9_fewest 30 = .ok (.aload_n 0, 1) := by decide +kernel
theorem dX9_fewest_31 : decode cX9_fewest 31 = .ok (.getfield 77, 3) := by decide +kernel
theorem dX9_fewest_34 : decode cX9_fewest 34 = .ok (.invokevirtual 190, 3) := by decide +kernel
theorem dX9_fewest_37 : decode cX9_fewest 37 = .ok (.iload_n 1, 1) := by decide +kernel
theorem dX9_fewest_38 : decode cX9_fewest 38 = .ok (.ifCond .ne 11, 3) := by decide +kernel
theorem dX9_fewest_41 : decode cX9_fewest 41 = .ok (.aload_n 0, 1) := by decide +kernel
theorem dX9_fewest_42 : decode cX9_fewest 42 = .ok (.getfield 42, 3) := by decide +kernel
theorem dX9_fewest_45 : decode cX9_fewest 45 = .ok (.getfield 194, 3) := by decide +kernel
theorem dX9_fewest_48 : decode cX9_fewest 48 = .ok (.ireturn, 1) := by decide +kernel
theorem dX9_fewest_49 : decode cX9_fewest 49 = .ok (.iload_n 1, 1) := by decide +kernel
theorem dX9_fewest_50 : decode cX9_fewest 50 = .ok (.iconst 1, 1) := by decide +kernel
theorem dX9_fewest_51 : decode cX9_fewest 51 = .ok (.if_icmp .ne 13, 3) := by decide +kernel
theorem dX9_fewest_54 : decode cX9_fewest 54 = .ok (.aload_n 0, 1) := by decide +kernel
theorem dX9_fewest_55 : decode cX9_fewest 55 = .ok (.getfield 42, 3) := by decide +kernel
theorem dX9_fewest_58 : decode cX9_fewest 58 = .ok (.getfield 197, 3) := by decide +kernel
theorem dX9_fewest_61 : decode cX9_fewest 61 = .ok (.goto 10, 3) := by decide +kernel
theorem dX9_fewest_64 : decode cX9_fewest 64 = .ok (.aload_n 0, 1) := by decide +kernel
theorem dX9_fewest_65 : decode cX9_fewest 65 = .ok (.getfield 42, 3) := by decide +kernel
theorem dX9_fewest_68 : decode cX9_fewest 68 = .ok (.getfield 200, 3) := by decide +kernel
theorem dX9_fewest_71 : decode cX9_fewest 71 = .ok (.ireturn, 1) := by decide +kernel
theorem dX9_cheapest_0 : decode cX9_cheapest 0 = .ok (.iload_n 1, 1) := by decide +kernel
theorem dX9_cheapest_1 : decode cX9_cheapest 1 = .ok (.ifCond .lt 8, 3) := by decide +kernel
theorem dX9_cheapest_4 : decode cX9_cheapest 4 = .ok (.iload_n 1, 1) := by decide +kernel
theorem dX9_cheapest_5 : decode cX9_cheapest 5 = .ok (.iconst 1, 1) := by decide +kernel
theorem dX9_cheapest_6 : decode cX9_cheapest 6 = .ok (.if_icmp .le 5, 3) := by decide +kernel
theorem dX9_cheapest_9 : decode cX9_cheapest 9 = .ok (.iconst (-1), 1) := by decide +kernel
theorem dX9_cheapest_10 : decode cX9_cheapest 10 = .ok (.ireturn, 1) := by decide +kernel
theorem dX9_cheapest_11 : decode cX9_cheapest 11 = .ok (.aload_n 0, 1) := by decide +kernel
theorem dX9_cheapest_12 : decode cX9_cheapest 12 = .ok (.getfield 42, 3) := by decide +kernel
theorem dX9_cheapest_15 : decode cX9_cheapest 15 = .ok (.aload_n 0, 1) := by decide +kernel
theorem dX9_cheapest_16 : decode cX9_cheapest 16 = .ok (.getfield 10, 3) := by decide +kernel
theorem dX9_cheapest_19 : decode cX9_cheapest 19 = .ok (.aload_n 0, 1) := by decide +kernel
theorem dX9_cheapest_20 : decode cX9_cheapest 20 = .ok (.aload_n 0, 1) := by decide +kernel
theorem dX9_cheapest_21 : decode cX9_cheapest 21 = .ok (.getfield 19, 3) := by decide +kernel
theorem dX9_cheapest_24 : decode cX9_cheapest 24 = .ok (.getfield 137, 3) := by decide +kernel
theorem dX9_cheapest_27 : decode cX9_cheapest 27 = .ok (.invokevirtual 187, 3) := by decide +kernel
theorem dX9_cheapest_30 : decode cX9_cheapest 30 = .ok (.aload_n 0, 1) := by decide +kernel
theorem dX9_cheapest_31 : decode cX9_cheapest 31 = .ok (.getfield 19, 3) := by decide +kernel
theorem dX9_cheapest_34 : decode cX9_cheapest 34 = .ok (.invokevirtual 190, 3) := by decide +kernel
theorem dX9_cheapest_37 : decode cX9_cheapest 37 = .ok (.iload_n 1, 1) := by decide +kernel
theorem dX9_cheapest_38 : decode cX9_cheapest 38 = .ok (.ifCond .ne 13, 3) := by decide +kernel
theorem dX9_cheapest_41 : decode cX9_cheapest 41 = .ok (.aload_n 0, 1) := by decide +kernel
theorem dX9_cheapest_42 : decode cX9_cheapest 42 = .ok (.getfield 42, 3) := by decide +kernel
theorem dX9_cheapest_45 : decode cX9_cheapest 45 = .ok (.getfield 194, 3) := by decide +kernel
theorem dX9_cheapest_48 : decode cX9_cheapest 48 = .ok (.goto 10, 3) := by decide +kernel
theorem dX9_cheapest_51 : decode cX9_cheapest 51 = .ok (.aload_n 0, 1) := by decide +kernel
theorem dX9_cheapest_52 : decode cX9_cheapest 52 = .ok (.getfield 42, 3) := by decide +kernel
theorem dX9_cheapest_55 : decode cX9_cheapest 55 = .ok (.getfield 197, 3) := by decide +kernel
theorem dX9_cheapest_58 : decode cX9_cheapest 58 = .ok (.ireturn, 1) := by decide +kernel
theorem dX9_without_0 : decode cX9_without 0 = .ok (.iload_n 1, 1) := by decide +kernel
theorem dX9_without_1 : decode cX9_without 1 = .ok (.aload_n 0, 1) := by decide +kernel
theorem dX9_without_2 : decode cX9_without 2 = .ok (.getfield 19, 3) := by decide +kernel
theorem dX9_without_5 : decode cX9_without 5 = .ok (.getfield 137, 3) := by decide +kernel
theorem dX9_without_8 : decode cX9_without 8 = .ok (.iconst (-1), 1) := by decide +kernel
theorem dX9_without_9 : decode cX9_without 9 = .ok (.ixor, 1) := by decide +kernel
theorem dX9_without_10 : decode cX9_without 10 = .ok (.iand, 1) := by decide +kernel
theorem dX9_without_11 : decode cX9_without 11 = .ok (.ifCond .ne 21, 3) := by decide +kernel
theorem dX9_without_14 : decode cX9_without 14 = .ok (.aload_n 0, 1) := by decide +kernel
theorem dX9_without_15 : decode cX9_without 15 = .ok (.aload_n 0, 1) := by decide +kernel
theorem dX9_without_16 : decode cX9_without 16 = .ok (.getfield 19, 3) := by decide +kernel
theorem dX9_without_19 : decode cX9_without 19 = .ok (.getfield 137, 3) := by decide +kernel
theorem dX9_without_22 : decode cX9_without 22 = .ok (.iload_n 1, 1) := by decide +kernel
theorem dX9_without_23 : decode cX9_without 23 = .ok (.iconst (-1), 1) := by decide +kernel
theorem dX9_without_24 : decode cX9_without 24 = .ok (.ixor, 1) := by decide +kernel
theorem dX9_without_25 : decode cX9_without 25 = .ok (.iand, 1) := by decide +kernel
theorem dX9_without_26 : decode cX9_without 26 = .ok (.invokevirtual 178, 3) := by decide +kernel
theorem dX9_without_29 : decode cX9_without 29 = .ok (.goto 4, 3) := by decide +kernel
theorem dX9_without_32 : decode cX9_without 32 = .ok (.iconst (-1), 1) := by decide +kernel
theorem dX9_without_33 : decode cX9_without 33 = .ok (.ireturn, 1) := by decide +kernel
theorem dX9_alike_0 : decode cX9_alike 0 = .ok (.iload_n 1, 1) := by decide +kernel
theorem dX9_alike_1 : decode cX9_alike 1 = .ok (.iload_n 2, 1) := by decide +kernel
theorem dX9_alike_2 : decode cX9_alike 2 = .ok (.ior, 1) := by decide +kernel
theorem dX9_alike_3 : decode cX9_alike 3 = .ok (.aload_n 0, 1) := by decide +kernel
theorem dX9_alike_4 : decode cX9_alike 4 = .ok (.getfield 10, 3) := by decide +kernel
theorem dX9_alike_7 : decode cX9_alike 7 = .ok (.invokevirtual 84, 3) := by decide +kernel
theorem dX9_alike_10 : decode cX9_alike 10 = .ok (.iconst (-1), 1) := by decide +kernel
theorem dX9_alike_11 : decode cX9_alike 11 = .ok (.ixor, 1) := by decide +kernel
theorem dX9_alike_12 : decode cX9_alike 12 = .ok (.iand, 1) := by decide +kernel
theorem dX9_alike_13 : decode cX9_alike 13 = .ok (.ifCond .eq 5, 3) := by decide +kernel
theorem dX9_alike_16 : decode cX9_alike 16 = .ok (.iconst (-1), 1) := by decide +kernel
theorem dX9_alike_17 : decode cX9_alike 17 = .ok (.ireturn, 1) := by decide +kernel
theorem dX9_alike_18 : decode cX9_alike 18 = .ok (.aload_n 0, 1) := by decide +kernel
theorem dX9_alike_19 : decode cX9_alike 19 = .ok (.getfield 10, 3) := by decide +kernel
theorem dX9_alike_22 : decode cX9_alike 22 = .ok (.iload_n 1, 1) := by decide +kernel
theorem dX9_alike_23 : decode cX9_alike 23 = .ok (.iload_n 2, 1) := by decide +kernel
theorem dX9_alike_24 : decode cX9_alike 24 = .ok (.invokevirtual 203, 3) := by decide +kernel
theorem dX9_alike_27 : decode cX9_alike 27 = .ok (.ifCond .eq 7, 3) := by decide +kernel
theorem dX9_alike_30 : decode cX9_alike 30 = .ok (.iconst 1, 1) := by decide +kernel
theorem dX9_alike_31 : decode cX9_alike 31 = .ok (.goto 4, 3) := by decide +kernel
theorem dX9_alike_34 : decode cX9_alike 34 = .ok (.iconst 0, 1) := by decide +kernel
theorem dX9_alike_35 : decode cX9_alike 35 = .ok (.ireturn, 1) := by decide +kernel
theorem dX9_between_0 : decode cX9_between 0 = .ok (.iload_n 1, 1) := by decide +kernel
theorem dX9_between_1 : decode cX9_between 1 = .ok (.ifCond .lt 8, 3) := by decide +kernel
theorem dX9_between_4 : decode cX9_between 4 = .ok (.iload_n 1, 1) := by decide +kernel
theorem dX9_between_5 : decode cX9_between 5 = .ok (.iconst 4, 1) := by decide +kernel
theorem dX9_between_6 : decode cX9_between 6 = .ok (.if_icmp .le 5, 3) := by decide +kernel
theorem dX9_between_9 : decode cX9_between 9 = .ok (.iconst (-1), 1) := by decide +kernel
theorem dX9_between_10 : decode cX9_between 10 = .ok (.ireturn, 1) := by decide +kernel
theorem dX9_between_11 : decode cX9_between 11 = .ok (.iload_n 1, 1) := by decide +kernel
theorem dX9_between_12 : decode cX9_between 12 = .ok (.aload_n 0, 1) := by decide +kernel
theorem dX9_between_13 : decode cX9_between 13 = .ok (.getfield 19, 3) := by decide +kernel
theorem dX9_between_16 : decode cX9_between 16 = .ok (.getfield 137, 3) := by decide +kernel
theorem dX9_between_19 : decode cX9_between 19 = .ok (.invokestatic 173, 3) := by decide +kernel
theorem dX9_between_22 : decode cX9_between 22 = .ok (.if_icmp .le 6, 3) := by decide +kernel
theorem dX9_between_25 : decode cX9_between 25 = .ok (.bipush (-4), 2) := by decide +kernel
theorem dX9_between_27 : decode cX9_between 27 = .ok (.ireturn, 1) := by decide +kernel
theorem dX9_between_28 : decode cX9_between 28 = .ok (.aload_n 0, 1) := by decide +kernel
theorem dX9_between_29 : decode cX9_between 29 = .ok (.getfield 49, 3) := by decide +kernel
theorem dX9_between_32 : decode cX9_between 32 = .ok (.invokevirtual 207, 3) := by decide +kernel
theorem dX9_between_35 : decode cX9_between 35 = .ok (.aload_n 0, 1) := by decide +kernel
theorem dX9_between_36 : decode cX9_between 36 = .ok (.getfield 49, 3) := by decide +kernel
theorem dX9_between_39 : decode cX9_between 39 = .ok (.aload_n 0, 1) := by decide +kernel
theorem dX9_between_40 : decode cX9_between 40 = .ok (.getfield 10, 3) := by decide +kernel
theorem dX9_between_43 : decode cX9_between 43 = .ok (.aload_n 0, 1) := by decide +kernel
theorem dX9_between_44 : decode cX9_between 44 = .ok (.getfield 19, 3) := by decide +kernel
theorem dX9_between_47 : decode cX9_between 47 = .ok (.getfield 137, 3) := by decide +kernel
theorem dX9_between_50 : decode cX9_between 50 = .ok (.iload_n 1, 1) := by decide +kernel
theorem dX9_between_51 : decode cX9_between 51 = .ok (.aload_n 0, 1) := by decide +kernel
theorem dX9_between_52 : decode cX9_between 52 = .ok (.aload_n 0, 1) := by decide +kernel
theorem dX9_between_53 : decode cX9_between 53 = .ok (.getfield 19, 3) := by decide +kernel
theorem dX9_between_56 : decode cX9_between 56 = .ok (.getfield 137, 3) := by decide +kernel
theorem dX9_between_59 : decode cX9_between 59 = .ok (.invokevirtual 187, 3) := by decide +kernel
theorem dX9_between_62 : decode cX9_between 62 = .ok (.invokevirtual 210, 3) := by decide +kernel
theorem dX9_between_65 : decode cX9_between 65 = .ok (.aload_n 0, 1) := by decide +kernel
theorem dX9_between_66 : decode cX9_between 66 = .ok (.getfield 49, 3) := by decide +kernel
theorem dX9_between_69 : decode cX9_between 69 = .ok (.getfield 214, 3) := by decide +kernel
theorem dX9_between_72 : decode cX9_between 72 = .ok (.ireturn, 1) := by decide +kernel
theorem dX9_just_0 : decode cX9_just 0 = .ok (.iload_n 1, 1) := by decide +kernel
theorem dX9_just_1 : decode cX9_just 1 = .ok (.ifCond .lt 27, 3) := by decide +kernel
theorem dX9_just_4 : decode cX9_just 4 = .ok (.iload_n 1, 1) := by decide +kernel
theorem dX9_just_5 : decode cX9_just 5 = .ok (.iconst 4, 1) := by decide +kernel
theorem dX9_just_6 : decode cX9_just 6 = .ok (.if_icmp .gt 22, 3) := by decide +kernel
theorem dX9_just_9 : decode cX9_just 9 = .ok (.iload_n 2, 1) := by decide +kernel
theorem dX9_just_10 : decode cX9_just 10 = .ok (.ifCond .lt 18, 3) := by decide +kernel
theorem dX9_just_13 : decode cX9_just 13 = .ok (.iload_n 2, 1) := by decide +kernel
theorem dX9_just_14 : decode cX9_just 14 = .ok (.bipush 20, 2) := by decide +kernel
theorem dX9_just_16 : decode cX9_just 16 = .ok (.if_icmp .gt 12, 3) := by decide +kernel
theorem dX9_just_19 : decode cX9_just 19 = .ok (.iload_n 3, 1) := by decide +kernel
theorem dX9_just_20 : decode cX9_just 20 = .ok (.ifCond .lt 8, 3) := by decide +kernel
theorem dX9_just_23 : decode cX9_just 23 = .ok (.iload_n 3, 1) := by decide +kernel
theorem dX9_just_24 : decode cX9_just 24 = .ok (.iconst 1, 1) := by decide +kernel
theorem dX9_just_25 : decode cX9_just 25 = .ok (.if_icmp .le 5, 3) := by decide +kernel
theorem dX9_just_28 : decode cX9_just 28 = .ok (.iconst (-1), 1) := by decide +kernel
theorem dX9_just_29 : decode cX9_just 29 = .ok (.ireturn, 1) := by decide +kernel
theorem dX9_just_30 : decode cX9_just 30 = .ok (.aload_n 0, 1) := by decide +kernel
theorem dX9_just_31 : decode cX9_just 31 = .ok (.getfield 49, 3) := by decide +kernel
theorem dX9_just_34 : decode cX9_just 34 = .ok (.invokevirtual 207, 3) := by decide +kernel
theorem dX9_just_37 : decode cX9_just 37 = .ok (.aload_n 0, 1) := by decide +kernel
theorem dX9_just_38 : decode cX9_just 38 = .ok (.getfield 49, 3) := by decide +kernel
theorem dX9_just_41 : decode cX9_just 41 = .ok (.aload_n 0, 1) := by decide +kernel
theorem dX9_just_42 : decode cX9_just 42 = .ok (.aload_n 0, 1) := by decide +kernel
theorem dX9_just_43 : decode cX9_just 43 = .ok (.getfield 19, 3) := by decide +kernel
theorem dX9_just_46 : decode cX9_just 46 = .ok (.getfield 137, 3) := by decide +kernel
theorem dX9_just_49 : decode cX9_just 49 = .ok (.invokevirtual 187, 3) := by decide +kernel
theorem dX9_just_52 : decode cX9_just 52 = .ok (.iload_n 2, 1) := by decide +kernel
theorem dX9_just_53 : decode cX9_just 53 = .ok (.invokevirtual 217, 3) := by decide +kernel
theorem dX9_just_56 : decode cX9_just 56 = .ok (.aload_n 0, 1) := by decide +kernel
theorem dX9_just_57 : decode cX9_just 57 = .ok (.getfield 49, 3) := by decide +kernel
theorem dX9_just_60 : decode cX9_just 60 = .ok (.aload_n 0, 1) := by decide +kernel
theorem dX9_just_61 : decode cX9_just 61 = .ok (.getfield 10, 3) := by decide +kernel
theorem dX9_just_64 : decode cX9_just 64 = .ok (.aload_n 0, 1) := by decide +kernel
theorem dX9_just_65 : decode cX9_just 65 = .ok (.getfield 19, 3) := by decide +kernel
theorem dX9_just_68 : decode cX9_just 68 = .ok (.getfield 137, 3) := by decide +kernel
theorem dX9_just_71 : decode cX9_just 71 = .ok (.iload_n 1, 1) := by decide +kernel
theorem dX9_just_72 : decode cX9_just 72 = .ok (.iconst 0, 1) := by decide +kernel
theorem dX9_just_73 : decode cX9_just 73 = .ok (.invokevirtual 210, 3) := by decide +kernel
theorem dX9_just_76 : decode cX9_just 76 = .ok (.iload_n 3, 1) := by decide +kernel
theorem dX9_just_77 : decode cX9_just 77 = .ok (.ifCond .ne 11, 3) := by decide +kernel
theorem dX9_just_80 : decode cX9_just 80 = .ok (.aload_n 0, 1) := by decide +kernel
theorem dX9_just_81 : decode cX9_just 81 = .ok (.getfield 49, 3) := by decide +kernel
theorem dX9_just_84 : decode cX9_just 84 = .ok (.getfield 220, 3) := by decide +kernel
theorem dX9_just_87 : decode cX9_just 87 = .ok (.ireturn, 1) := by decide +kernel
theorem dX9_just_88 : decode cX9_just 88 = .ok (.aload_n 0, 1) := by decide +kernel
theorem dX9_just_89 : decode cX9_just 89 = .ok (.getfield 49, 3) := by decide +kernel
theorem dX9_just_92 : decode cX9_just 92 = .ok (.getfield 220, 3) := by decide +kernel
theorem dX9_just_95 : decode cX9_just 95 = .ok (.ifCond .ne 8, 3) := by decide +kernel
theorem dX9_just_98 : decode cX9_just 98 = .ok (.bipush (-4), 2) := by decide +kernel
theorem dX9_just_100 : decode cX9_just 100 = .ok (.goto 10, 3) := by decide +kernel
theorem dX9_just_103 : decode cX9_just 103 = .ok (.aload_n 0, 1) := by decide +kernel
theorem dX9_just_104 : decode cX9_just 104 = .ok (.getfield 49, 3) := by decide +kernel
theorem dX9_just_107 : decode cX9_just 107 = .ok (.getfield 223, 3) := by decide +kernel
theorem dX9_just_110 : decode cX9_just 110 = .ok (.ireturn, 1) := by decide +kernel
theorem dX9_riddle_0 : decode cX9_riddle 0 = .ok (.iload_n 1, 1) := by decide +kernel
theorem dX9_riddle_1 : decode cX9_riddle 1 = .ok (.iconst 1, 1) := by decide +kernel
theorem dX9_riddle_2 : decode cX9_riddle 2 = .ok (.if_icmp .lt 27, 3) := by decide +kernel
theorem dX9_riddle_5 : decode cX9_riddle 5 = .ok (.iload_n 1, 1) := by decide +kernel
theorem dX9_riddle_6 : decode cX9_riddle 6 = .ok (.iconst 2, 1) := by decide +kernel
theorem dX9_riddle_7 : decode cX9_riddle 7 = .ok (.if_icmp .gt 22, 3) := by decide +kernel
theorem dX9_riddle_10 : decode cX9_riddle 10 = .ok (.iload_n 2, 1) := by decide +kernel
theorem dX9_riddle_11 : decode cX9_riddle 11 = .ok (.ifCond .lt 18, 3) := by decide +kernel
theorem dX9_riddle_14 : decode cX9_riddle 14 = .ok (.iload_n 2, 1) := by decide +kernel
theorem dX9_riddle_15 : decode cX9_riddle 15 = .ok (.bipush 20, 2) := by decide +kernel
theorem dX9_riddle_17 : decode cX9_riddle 17 = .ok (.if_icmp .gt 12, 3) := by decide +kernel
theorem dX9_riddle_20 : decode cX9_riddle 20 = .ok (.iload_n 3, 1) := by decide +kernel
theorem dX9_riddle_21 : decode cX9_riddle 21 = .ok (.ifCond .lt 8, 3) := by decide +kernel
theorem dX9_riddle_24 : decode cX9_riddle 24 = .ok (.iload_n 3, 1) := by decide +kernel
theorem dX9_riddle_25 : decode cX9_riddle 25 = .ok (.iconst 2, 1) := by decide +kernel
theorem dX9_riddle_26 : decode cX9_riddle 26 = .ok (.if_icmp .le 5, 3) := by decide +kernel
theorem dX9_riddle_29 : decode cX9_riddle 29 = .ok (.iconst (-1), 1) := by decide +kernel
theorem dX9_riddle_30 : decode cX9_riddle 30 = .ok (.ireturn, 1) := by decide +kernel
theorem dX9_riddle_31 : decode cX9_riddle 31 = .ok (.aload_n 0, 1) := by decide +kernel
theorem dX9_riddle_32 : decode cX9_riddle 32 = .ok (.getfield 56, 3) := by decide +kernel
theorem dX9_riddle_35 : decode cX9_riddle 35 = .ok (.aload_n 0, 1) := by decide +kernel
theorem dX9_riddle_36 : decode cX9_riddle 36 = .ok (.getfield 10, 3) := by decide +kernel
theorem dX9_riddle_39 : decode cX9_riddle 39 = .ok (.aload_n 0, 1) := by decide +kernel
theorem dX9_riddle_40 : decode cX9_riddle 40 = .ok (.getfield 19, 3) := by decide +kernel
theorem dX9_riddle_43 : decode cX9_riddle 43 = .ok (.getfield 137, 3) := by decide +kernel
theorem dX9_riddle_46 : decode cX9_riddle 46 = .ok (.aload_n 0, 1) := by decide +kernel
theorem dX9_riddle_47 : decode cX9_riddle 47 = .ok (.invokevirtual 224, 3) := by decide +kernel
theorem dX9_riddle_50 : decode cX9_riddle 50 = .ok (.iload_n 1, 1) := by decide +kernel
theorem dX9_riddle_51 : decode cX9_riddle 51 = .ok (.iload_n 2, 1) := by decide +kernel
theorem dX9_riddle_52 : decode cX9_riddle 52 = .ok (.invokevirtual 227, 3) := by decide +kernel
theorem dX9_riddle_55 : decode cX9_riddle 55 = .ok (.iload_n 3, 1) := by decide +kernel
theorem dX9_riddle_56 : decode cX9_riddle 56 = .ok (.ifCond .ne 11, 3) := by decide +kernel
theorem dX9_riddle_59 : decode cX9_riddle 59 = .ok (.aload_n 0, 1) := by decide +kernel
theorem dX9_riddle_60 : decode cX9_riddle 60 = .ok (.getfield 56, 3) := by decide +kernel
theorem dX9_riddle_63 : decode cX9_riddle 63 = .ok (.getfield 231, 3) := by decide +kernel
theorem dX9_riddle_66 : decode cX9_riddle 66 = .ok (.ireturn, 1) := by decide +kernel
theorem dX9_riddle_67 : decode cX9_riddle 67 = .ok (.aload_n 0, 1) := by decide +kernel
theorem dX9_riddle_68 : decode cX9_riddle 68 = .ok (.getfield 56, 3) := by decide +kernel
theorem dX9_riddle_71 : decode cX9_riddle 71 = .ok (.getfield 231, 3) := by decide +kernel
theorem dX9_riddle_74 : decode cX9_riddle 74 = .ok (.ifCond .ne 6, 3) := by decide +kernel
theorem dX9_riddle_77 : decode cX9_riddle 77 = .ok (.bipush (-4), 2) := by decide +kernel
theorem dX9_riddle_79 : decode cX9_riddle 79 = .ok (.ireturn, 1) := by decide +kernel
theorem dX9_riddle_80 : decode cX9_riddle 80 = .ok (.iload_n 3, 1) := by decide +kernel
theorem dX9_riddle_81 : decode cX9_riddle 81 = .ok (.iconst 1, 1) := by decide +kernel
theorem dX9_riddle_82 : decode cX9_riddle 82 = .ok (.if_icmp .ne 13, 3) := by decide +kernel
theorem dX9_riddle_85 : decode cX9_riddle 85 = .ok (.aload_n 0, 1) := by decide +kernel
theorem dX9_riddle_86 : decode cX9_riddle 86 = .ok (.getfield 56, 3) := by decide +kernel
theorem dX9_riddle_89 : decode cX9_riddle 89 = .ok (.getfield 232, 3) := by decide +kernel
theorem dX9_riddle_92 : decode cX9_riddle 92 = .ok (.goto 10, 3) := by decide +kernel
theorem dX9_riddle_95 : decode cX9_riddle 95 = .ok (.aload_n 0, 1) := by decide +kernel
theorem dX9_riddle_96 : decode cX9_riddle 96 = .ok (.getfield 56, 3) := by decide +kernel
theorem dX9_riddle_99 : decode cX9_riddle 99 = .ok (.getfield 235, 3) := by decide +kernel
theorem dX9_riddle_102 : decode cX9_riddle 102 = .ok (.ireturn, 1) := by decide +kernel
theorem dX9_taking_0 : decode cX9_taking 0 = .ok (.iload_n 1, 1) := by decide +kernel
theorem dX9_taking_1 : decode cX9_taking 1 = .ok (.ifCond .lt 8, 3) := by decide +kernel
theorem dX9_taking_4 : decode cX9_taking 4 = .ok (.iload_n 1, 1) := by decide +kernel
theorem dX9_taking_5 : decode cX9_taking 5 = .ok (.iconst 1, 1) := by decide +kernel
theorem dX9_taking_6 : decode cX9_taking 6 = .ok (.if_icmp .le 5, 3) := by decide +kernel
theorem dX9_taking_9 : decode cX9_taking 9 = .ok (.iconst (-1), 1) := by decide +kernel
theorem dX9_taking_10 : decode cX9_taking 10 = .ok (.ireturn, 1) := by decide +kernel
theorem dX9_taking_11 : decode cX9_taking 11 = .ok (.aload_n 0, 1) := by decide +kernel
theorem dX9_taking_12 : decode cX9_taking 12 = .ok (.aload_n 0, 1) := by decide +kernel
theorem dX9_taking_13 : decode cX9_taking 13 = .ok (.getfield 19, 3) := by decide +kernel
theorem dX9_taking_16 : decode cX9_taking 16 = .ok (.getfield 137, 3) := by decide +kernel
theorem dX9_taking_19 : decode cX9_taking 19 = .ok (.invokevirtual 187, 3) := by decide +kernel
theorem dX9_taking_22 : decode cX9_taking 22 = .ok (.istore_n 2, 1) := by decide +kernel
theorem dX9_taking_23 : decode cX9_taking 23 = .ok (.iload_n 2, 1) := by decide +kernel
theorem dX9_taking_24 : decode cX9_taking 24 = .ok (.ifCond .eq 18, 3) := by decide +kernel
theorem dX9_taking_27 : decode cX9_taking 27 = .ok (.aload_n 0, 1) := by decide +kernel
theorem dX9_taking_28 : decode cX9_taking 28 = .ok (.getfield 19, 3) := by decide +kernel
theorem dX9_taking_31 : decode cX9_taking 31 = .ok (.getfield 137, 3) := by decide +kernel
theorem dX9_taking_34 : decode cX9_taking 34 = .ok (.invokestatic 173, 3) := by decide +kernel
theorem dX9_taking_37 : decode cX9_taking 37 = .ok (.bipush 12, 2) := by decide +kernel
theorem dX9_taking_39 : decode cX9_taking 39 = .ok (.if_icmp .le 6, 3) := by decide +kernel
theorem dX9_taking_42 : decode cX9_taking 42 = .ok (.bipush (-2), 2) := by decide +kernel
theorem dX9_taking_44 : decode cX9_taking 44 = .ok (.ireturn, 1) := by decide +kernel
theorem dX9_taking_45 : decode cX9_taking 45 = .ok (.aload_n 0, 1) := by decide +kernel
theorem dX9_taking_46 : decode cX9_taking 46 = .ok (.getfield 63, 3) := by decide +kernel
theorem dX9_taking_49 : decode cX9_taking 49 = .ok (.aload_n 0, 1) := by decide +kernel
theorem dX9_taking_50 : decode cX9_taking 50 = .ok (.getfield 10, 3) := by decide +kernel
theorem dX9_taking_53 : decode cX9_taking 53 = .ok (.iload_n 2, 1) := by decide +kernel
theorem dX9_taking_54 : decode cX9_taking 54 = .ok (.aload_n 0, 1) := by decide +kernel
theorem dX9_taking_55 : decode cX9_taking 55 = .ok (.getfield 19, 3) := by decide +kernel
theorem dX9_taking_58 : decode cX9_taking 58 = .ok (.getfield 137, 3) := by decide +kernel
theorem dX9_taking_61 : decode cX9_taking 61 = .ok (.invokevirtual 238, 3) := by decide +kernel
theorem dX9_taking_64 : decode cX9_taking 64 = .ok (.iload_n 1, 1) := by decide +kernel
theorem dX9_taking_65 : decode cX9_taking 65 = .ok (.ifCond .ne 21, 3) := by decide +kernel
theorem dX9_taking_68 : decode cX9_taking 68 = .ok (.aload_n 0, 1) := by decide +kernel
theorem dX9_taking_69 : decode cX9_taking 69 = .ok (.getfield 63, 3) := by decide +kernel
theorem dX9_taking_72 : decode cX9_taking 72 = .ok (.getfield 242, 3) := by decide +kernel
theorem dX9_taking_75 : decode cX9_taking 75 = .ok (.bipush (-4), 2) := by decide +kernel
theorem dX9_taking_77 : decode cX9_taking 77 = .ok (.if_icmp .ne 7, 3) := by decide +kernel
theorem dX9_taking_80 : decode cX9_taking 80 = .ok (.iconst 2, 1) := by decide +kernel
theorem dX9_taking_81 : decode cX9_taking 81 = .ok (.goto 4, 3) := by decide +kernel
theorem dX9_taking_84 : decode cX9_taking 84 = .ok (.iconst 1, 1) := by decide +kernel
theorem dX9_taking_85 : decode cX9_taking 85 = .ok (.ireturn, 1) := by decide +kernel
theorem dX9_taking_86 : decode cX9_taking 86 = .ok (.aload_n 0, 1) := by decide +kernel
theorem dX9_taking_87 : decode cX9_taking 87 = .ok (.getfield 63, 3) := by decide +kernel
theorem dX9_taking_90 : decode cX9_taking 90 = .ok (.getfield 242, 3) := by decide +kernel
theorem dX9_taking_93 : decode cX9_taking 93 = .ok (.ireturn, 1) := by decide +kernel
theorem dX9_laying_0 : decode cX9_laying 0 = .ok (.iload_n 1, 1) := by decide +kernel
theorem dX9_laying_1 : decode cX9_laying 1 = .ok (.ifCond .lt 8, 3) := by decide +kernel
theorem dX9_laying_4 : decode cX9_laying 4 = .ok (.iload_n 1, 1) := by decide +kernel
theorem dX9_laying_5 : decode cX9_laying 5 = .ok (.iconst 1, 1) := by decide +kernel
theorem dX9_laying_6 : decode cX9_laying 6 = .ok (.if_icmp .le 5, 3) := by decide +kernel
theorem dX9_laying_9 : decode cX9_laying 9 = .ok (.iconst (-1), 1) := by decide +kernel
theorem dX9_laying_10 : decode cX9_laying 10 = .ok (.ireturn, 1) := by decide +kernel
theorem dX9_laying_11 : decode cX9_laying 11 = .ok (.aload_n 0, 1) := by decide +kernel
theorem dX9_laying_12 : decode cX9_laying 12 = .ok (.getfield 10, 3) := by decide +kernel
theorem dX9_laying_15 : decode cX9_laying 15 = .ok (.invokevirtual 84, 3) := by decide +kernel
theorem dX9_laying_18 : decode cX9_laying 18 = .ok (.aload_n 0, 1) := by decide +kernel
theorem dX9_laying_19 : decode cX9_laying 19 = .ok (.getfield 19, 3) := by decide +kernel
theorem dX9_laying_22 : decode cX9_laying 22 = .ok (.getfield 137, 3) := by decide +kernel
theorem dX9_laying_25 : decode cX9_laying 25 = .ok (.iconst (-1), 1) := by decide +kernel
theorem dX9_laying_26 : decode cX9_laying 26 = .ok (.ixor, 1) := by decide +kernel
theorem dX9_laying_27 : decode cX9_laying 27 = .ok (.iand, 1) := by decide +kernel
theorem dX9_laying_28 : decode cX9_laying 28 = .ok (.istore_n 2, 1) := by decide +kernel
theorem dX9_laying_29 : decode cX9_laying 29 = .ok (.iload_n 2, 1) := by decide +kernel
theorem dX9_laying_30 : decode cX9_laying 30 = .ok (.invokestatic 245, 3) := by decide +kernel
theorem dX9_laying_33 : decode cX9_laying 33 = .ok (.ifCond .ne 6, 3) := by decide +kernel
theorem dX9_laying_36 : decode cX9_laying 36 = .ok (.bipush (-2), 2) := by decide +kernel
theorem dX9_laying_38 : decode cX9_laying 38 = .ok (.ireturn, 1) := by decide +kernel
theorem dX9_laying_39 : decode cX9_laying 39 = .ok (.aload_n 0, 1) := by decide +kernel
theorem dX9_laying_40 : decode cX9_laying 40 = .ok (.getfield 63, 3) := by decide +kernel
theorem dX9_laying_43 : decode cX9_laying 43 = .ok (.aload_n 0, 1) := by decide +kernel
theorem dX9_laying_44 : decode cX9_laying 44 = .ok (.getfield 10, 3) := by decide +kernel
theorem dX9_laying_47 : decode cX9_laying 47 = .ok (.aload_n 0, 1) := by decide +kernel
theorem dX9_laying_48 : decode cX9_laying 48 = .ok (.invokevirtual 224, 3) := by decide +kernel
theorem dX9_laying_51 : decode cX9_laying 51 = .ok (.iload_n 2, 1) := by decide +kernel
theorem dX9_laying_52 : decode cX9_laying 52 = .ok (.iconst 0, 1) := by decide +kernel
theorem dX9_laying_53 : decode cX9_laying 53 = .ok (.invokevirtual 248, 3) := by decide +kernel
theorem dX9_laying_56 : decode cX9_laying 56 = .ok (.iload_n 1, 1) := by decide +kernel
theorem dX9_laying_57 : decode cX9_laying 57 = .ok (.iconst 1, 1) := by decide +kernel
theorem dX9_laying_58 : decode cX9_laying 58 = .ok (.if_icmp .ne 11, 3) := by decide +kernel
theorem dX9_laying_61 : decode cX9_laying 61 = .ok (.aload_n 0, 1) := by decide +kernel
theorem dX9_laying_62 : decode cX9_laying 62 = .ok (.getfield 63, 3) := by decide +kernel
theorem dX9_laying_65 : decode cX9_laying 65 = .ok (.getfield 242, 3) := by decide +kernel
theorem dX9_laying_68 : decode cX9_laying 68 = .ok (.ireturn, 1) := by decide +kernel
theorem dX9_laying_69 : decode cX9_laying 69 = .ok (.aload_n 0, 1) := by decide +kernel
theorem dX9_laying_70 : decode cX9_laying 70 = .ok (.getfield 63, 3) := by decide +kernel
theorem dX9_laying_73 : decode cX9_laying 73 = .ok (.getfield 252, 3) := by decide +kernel
theorem dX9_laying_76 : decode cX9_laying 76 = .ok (.ifCond .ge 7, 3) := by decide +kernel
theorem dX9_laying_79 : decode cX9_laying 79 = .ok (.iconst 2, 1) := by decide +kernel
theorem dX9_laying_80 : decode cX9_laying 80 = .ok (.goto 10, 3) := by decide +kernel
theorem dX9_laying_83 : decode cX9_laying 83 = .ok (.aload_n 0, 1) := by decide +kernel
theorem dX9_laying_84 : decode cX9_laying 84 = .ok (.getfield 63, 3) := by decide +kernel
theorem dX9_laying_87 : decode cX9_laying 87 = .ok (.getfield 252, 3) := by decide +kernel
theorem dX9_laying_90 : decode cX9_laying 90 = .ok (.ireturn, 1) := by decide +kernel
theorem dX9_boxes_0 : decode cX9_boxes 0 = .ok (.iload_n 1, 1) := by decide +kernel
theorem dX9_boxes_1 : decode cX9_boxes 1 = .ok (.ifCond .lt 8, 3) := by decide +kernel
theorem dX9_boxes_4 : decode cX9_boxes 4 = .ok (.iload_n 1, 1) := by decide +kernel
theorem dX9_boxes_5 : decode cX9_boxes 5 = .ok (.iconst 1, 1) := by decide +kernel
theorem dX9_boxes_6 : decode cX9_boxes 6 = .ok (.if_icmp .le 5, 3) := by decide +kernel
theorem dX9_boxes_9 : decode cX9_boxes 9 = .ok (.iconst (-1), 1) := by decide +kernel
theorem dX9_boxes_10 : decode cX9_boxes 10 = .ok (.ireturn, 1) := by decide +kernel
theorem dX9_boxes_11 : decode cX9_boxes 11 = .ok (.aload_n 0, 1) := by decide +kernel
theorem dX9_boxes_12 : decode cX9_boxes 12 = .ok (.getfield 10, 3) := by decide +kernel
theorem dX9_boxes_15 : decode cX9_boxes 15 = .ok (.invokevirtual 84, 3) := by decide +kernel
theorem dX9_boxes_18 : decode cX9_boxes 18 = .ok (.aload_n 0, 1) := by decide +kernel
theorem dX9_boxes_19 : decode cX9_boxes 19 = .ok (.getfield 19, 3) := by decide +kernel
theorem dX9_boxes_22 : decode cX9_boxes 22 = .ok (.getfield 137, 3) := by decide +kernel
theorem dX9_boxes_25 : decode cX9_boxes 25 = .ok (.iconst (-1), 1) := by decide +kernel
theorem dX9_boxes_26 : decode cX9_boxes 26 = .ok (.ixor, 1) := by decide +kernel
theorem dX9_boxes_27 : decode cX9_boxes 27 = .ok (.iand, 1) := by decide +kernel
theorem dX9_boxes_28 : decode cX9_boxes 28 = .ok (.istore_n 2, 1) := by decide +kernel
theorem dX9_boxes_29 : decode cX9_boxes 29 = .ok (.iload_n 2, 1) := by decide +kernel
theorem dX9_boxes_30 : decode cX9_boxes 30 = .ok (.invokestatic 245, 3) := by decide +kernel
theorem dX9_boxes_33 : decode cX9_boxes 33 = .ok (.ifCond .ne 6, 3) := by decide +kernel
theorem dX9_boxes_36 : decode cX9_boxes 36 = .ok (.bipush (-2), 2) := by decide +kernel
theorem dX9_boxes_38 : decode cX9_boxes 38 = .ok (.ireturn, 1) := by decide +kernel
theorem dX9_boxes_39 : decode cX9_boxes 39 = .ok (.aload_n 0, 1) := by decide +kernel
theorem dX9_boxes_40 : decode cX9_boxes 40 = .ok (.getfield 63, 3) := by decide +kernel
theorem dX9_boxes_43 : decode cX9_boxes 43 = .ok (.aload_n 0, 1) := by decide +kernel
theorem dX9_boxes_44 : decode cX9_boxes 44 = .ok (.getfield 10, 3) := by decide +kernel
theorem dX9_boxes_47 : decode cX9_boxes 47 = .ok (.aload_n 0, 1) := by decide +kernel
theorem dX9_boxes_48 : decode cX9_boxes 48 = .ok (.invokevirtual 224, 3) := by decide +kernel
theorem dX9_boxes_51 : decode cX9_boxes 51 = .ok (.iload_n 2, 1) := by decide +kernel
theorem dX9_boxes_52 : decode cX9_boxes 52 = .ok (.iconst 1, 1) := by decide +kernel
theorem dX9_boxes_53 : decode cX9_boxes 53 = .ok (.invokevirtual 248, 3) := by decide +kernel
theorem dX9_boxes_56 : decode cX9_boxes 56 = .ok (.iload_n 1, 1) := by decide +kernel
theorem dX9_boxes_57 : decode cX9_boxes 57 = .ok (.ifCond .ne 16, 3) := by decide +kernel
theorem dX9_boxes_60 : decode cX9_boxes 60 = .ok (.aload_n 0, 1) := by decide +kernel
theorem dX9_boxes_61 : decode cX9_boxes 61 = .ok (.getfield 63, 3) := by decide +kernel
theorem dX9_boxes_64 : decode cX9_boxes 64 = .ok (.getfield 252, 3) := by decide +kernel
theorem dX9_boxes_67 : decode cX9_boxes 67 = .ok (.bipush 100, 2) := by decide +kernel
theorem dX9_boxes_69 : decode cX9_boxes 69 = .ok (.iadd, 1) := by decide +kernel
theorem dX9_boxes_70 : decode cX9_boxes 70 = .ok (.goto 10, 3) := by decide +kernel
theorem dX9_boxes_73 : decode cX9_boxes 73 = .ok (.aload_n 0, 1) := by decide +kernel
theorem dX9_boxes_74 : decode cX9_boxes 74 = .ok (.getfield 63, 3) := by decide +kernel
theorem dX9_boxes_77 : decode cX9_boxes 77 = .ok (.getfield 242, 3) := by decide +kernel
theorem dX9_boxes_80 : decode cX9_boxes 80 = .ok (.ireturn, 1) := by decide +kernel
theorem dX9_mean_0 : decode cX9_mean 0 = .ok (.iload_n 1, 1) := by decide +kernel
theorem dX9_mean_1 : decode cX9_mean 1 = .ok (.ifCond .lt 8, 3) := by decide +kernel
theorem dX9_mean_4 : decode cX9_mean 4 = .ok (.iload_n 1, 1) := by decide +kernel
theorem dX9_mean_5 : decode cX9_mean 5 = .ok (.iconst 1, 1) := by decide +kernel
theorem dX9_mean_6 : decode cX9_mean 6 = .ok (.if_icmp .le 7, 3) := by decide +kernel
theorem dX9_mean_9 : decode cX9_mean 9 = .ok (.ldc2_w 255, 3) := by decide +kernel
theorem dX9_mean_12 : decode cX9_mean 12 = .ok (.lreturn, 1) := by decide +kernel
theorem dX9_mean_13 : decode cX9_mean 13 = .ok (.aload_n 0, 1) := by decide +kernel
theorem dX9_mean_14 : decode cX9_mean 14 = .ok (.aload_n 0, 1) := by decide +kernel
theorem dX9_mean_15 : decode cX9_mean 15 = .ok (.getfield 19, 3) := by decide +kernel
theorem dX9_mean_18 : decode cX9_mean 18 = .ok (.getfield 137, 3) := by decide +kernel
theorem dX9_mean_21 : decode cX9_mean 21 = .ok (.invokevirtual 187, 3) := by decide +kernel
theorem dX9_mean_24 : decode cX9_mean 24 = .ok (.istore_n 2, 1) := by decide +kernel
theorem dX9_mean_25 : decode cX9_mean 25 = .ok (.lconst 0, 1) := by decide +kernel
theorem dX9_mean_26 : decode cX9_mean 26 = .ok (.lstore_n 3, 1) := by decide +kernel
theorem dX9_mean_27 : decode cX9_mean 27 = .ok (.iconst 1, 1) := by decide +kernel
theorem dX9_mean_28 : decode cX9_mean 28 = .ok (.istore 5, 2) := by decide +kernel
theorem dX9_mean_30 : decode cX9_mean 30 = .ok (.iload 5, 2) := by decide +kernel
theorem dX9_mean_32 : decode cX9_mean 32 = .ok (.iconst 3, 1) := by decide +kernel
theorem dX9_mean_33 : decode cX9_mean 33 = .ok (.if_icmp .gt 41, 3) := by decide +kernel
theorem dX9_mean_36 : decode cX9_mean 36 = .ok (.lconst 1, 1) := by decide +kernel
theorem dX9_mean_37 : decode cX9_mean 37 = .ok (.iconst 4, 1) := by decide +kernel
theorem dX9_mean_38 : decode cX9_mean 38 = .ok (.iconst 3, 1) := by decide +kernel
theorem dX9_mean_39 : decode cX9_mean 39 = .ok (.iload 5, 2) := by decide +kernel
theorem dX9_mean_41 : decode cX9_mean 41 = .ok (.isub, 1) := by decide +kernel
theorem dX9_mean_42 : decode cX9_mean 42 = .ok (.imul, 1) := by decide +kernel
theorem dX9_mean_43 : decode cX9_mean 43 = .ok (.lshl, 1) := by decide +kernel
theorem dX9_mean_44 : decode cX9_mean 44 = .ok (.lstore 6, 2) := by decide +kernel
theorem dX9_mean_46 : decode cX9_mean 46 = .ok (.lload_n 3, 1) := by decide +kernel
theorem dX9_mean_47 : decode cX9_mean 47 = .ok (.lload 6, 2) := by decide +kernel
theorem dX9_mean_49 : decode cX9_mean 49 = .ok (.iload_n 2, 1) := by decide +kernel
theorem dX9_mean_50 : decode cX9_mean 50 = .ok (.aload_n 0, 1) := by decide +kernel
theorem dX9_mean_51 : decode cX9_mean 51 = .ok (.getfield 10, 3) := by decide +kernel
theorem dX9_mean_54 : decode cX9_mean 54 = .ok (.getfield 170, 3) := by decide +kernel
theorem dX9_mean_57 : decode cX9_mean 57 = .ok (.iload 5, 2) := by decide +kernel
theorem dX9_mean_59 : decode cX9_mean 59 = .ok (.iaload, 1) := by decide +kernel
theorem dX9_mean_60 : decode cX9_mean 60 = .ok (.iand, 1) := by decide +kernel
theorem dX9_mean_61 : decode cX9_mean 61 = .ok (.invokestatic 173, 3) := by decide +kernel
theorem dX9_mean_64 : decode cX9_mean 64 = .ok (.i2l, 1) := by decide +kernel
theorem dX9_mean_65 : decode cX9_mean 65 = .ok (.lmul, 1) := by decide +kernel
theorem dX9_mean_66 : decode cX9_mean 66 = .ok (.ladd, 1) := by decide +kernel
theorem dX9_mean_67 : decode cX9_mean 67 = .ok (.lstore_n 3, 1) := by decide +kernel
theorem dX9_mean_68 : decode cX9_mean 68 = .ok (.iinc 5 1, 3) := by decide +kernel
theorem dX9_mean_71 : decode cX9_mean 71 = .ok (.goto (-41), 3) := by decide +kernel
theorem dX9_mean_74 : decode cX9_mean 74 = .ok (.lload_n 3, 1) := by decide +kernel
theorem dX9_mean_75 : decode cX9_mean 75 = .ok (.bipush 12, 2) := by decide +kernel
theorem dX9_mean_77 : decode cX9_mean 77 = .ok (.iload_n 1, 1) := by decide +kernel
theorem dX9_mean_78 : decode cX9_mean 78 = .ok (.invokestatic 257, 3) := by decide +kernel
theorem dX9_mean_81 : decode cX9_mean 81 = .ok (.lreturn, 1) := by decide +kernel
theorem dX9_chance_0 : decode cX9_chance 0 = .ok (.iload_n 1, 1) := by decide +kernel
theorem dX9_chance_1 : decode cX9_chance 1 = .ok (.ifCond .lt 8, 3) := by decide +kernel
theorem dX9_chance_4 : decode cX9_chance 4 = .ok (.iload_n 1, 1) := by decide +kernel
theorem dX9_chance_5 : decode cX9_chance 5 = .ok (.iconst 1, 1) := by decide +kernel
theorem dX9_chance_6 : decode cX9_chance 6 = .ok (.if_icmp .le 7, 3) := by decide +kernel
theorem dX9_chance_9 : decode cX9_chance 9 = .ok (.ldc2_w 255, 3) := by decide +kernel
theorem dX9_chance_12 : decode cX9_chance 12 = .ok (.lreturn, 1) := by decide +kernel
theorem dX9_chance_13 : decode cX9_chance 13 = .ok (.aload_n 0, 1) := by decide +kernel
theorem dX9_chance_14 : decode cX9_chance 14 = .ok (.getfield 19, 3) := by decide +kernel
theorem dX9_chance_17 : decode cX9_chance 17 = .ok (.getfield 137, 3) := by decide +kernel
theorem dX9_chance_20 : decode cX9_chance 20 = .ok (.invokestatic 173, 3) := by decide +kernel
theorem dX9_chance_23 : decode cX9_chance 23 = .ok (.istore_n 2, 1) := by decide +kernel
theorem dX9_chance_24 : decode cX9_chance 24 = .ok (.iload_n 2, 1) := by decide +kernel
theorem dX9_chance_25 : decode cX9_chance 25 = .ok (.bipush 16, 2) := by decide +kernel
theorem dX9_chance_27 : decode cX9_chance 27 = .ok (.if_icmp .le 7, 3) := by decide +kernel
theorem dX9_chance_30 : decode cX9_chance 30 = .ok (.ldc2_w 261, 3) := by decide +kernel
theorem dX9_chance_33 : decode cX9_chance 33 = .ok (.lreturn, 1) := by decide +kernel
theorem dX9_chance_34 : decode cX9_chance 34 = .ok (.aload_n 0, 1) := by decide +kernel
theorem dX9_chance_35 : decode cX9_chance 35 = .ok (.getfield 10, 3) := by decide +kernel
theorem dX9_chance_38 : decode cX9_chance 38 = .ok (.aload_n 0, 1) := by decide +kernel
theorem dX9_chance_39 : decode cX9_chance 39 = .ok (.aload_n 0, 1) := by decide +kernel
theorem dX9_chance_40 : decode cX9_chance 40 = .ok (.getfield 19, 3) := by decide +kernel
theorem dX9_chance_43 : decode cX9_chance 43 = .ok (.getfield 137, 3) := by decide +kernel
theorem dX9_chance_46 : decode cX9_chance 46 = .ok (.invokevirtual 187, 3) := by decide +kernel
theorem dX9_chance_49 : decode cX9_chance 49 = .ok (.iconst 0, 1) := by decide +kernel
theorem dX9_chance_50 : decode cX9_chance 50 = .ok (.iconst 0, 1) := by decide +kernel
theorem dX9_chance_51 : decode cX9_chance 51 = .ok (.iload_n 2, 1) := by decide +kernel
theorem dX9_chance_52 : decode cX9_chance 52 = .ok (.invokestatic 263, 3) := by decide +kernel
theorem dX9_chance_55 : decode cX9_chance 55 = .ok (.iload_n 2, 1) := by decide +kernel
theorem dX9_chance_56 : decode cX9_chance 56 = .ok (.iload_n 1, 1) := by decide +kernel
theorem dX9_chance_57 : decode cX9_chance 57 = .ok (.invokestatic 257, 3) := by decide +kernel
theorem dX9_chance_60 : decode cX9_chance 60 = .ok (.lreturn, 1) := by decide +kernel
theorem dX9_see_0 : decode cX9_see 0 = .ok (.iload_n 1, 1) := by decide +kernel
theorem dX9_see_1 : decode cX9_see 1 = .ok (.invokestatic 167, 3) := by decide +kernel
theorem dX9_see_4 : decode cX9_see 4 = .ok (.ifCond .eq 19, 3) := by decide +kernel
theorem dX9_see_7 : decode cX9_see 7 = .ok (.iload_n 2, 1) := by decide +kernel
theorem dX9_see_8 : decode cX9_see 8 = .ok (.bipush (-4), 2) := by decide +kernel
theorem dX9_see_10 : decode cX9_see 10 = .ok (.if_icmp .eq 15, 3) := by decide +kernel
theorem dX9_see_13 : decode cX9_see 13 = .ok (.iload_n 2, 1) := by decide +kernel
theorem dX9_see_14 : decode cX9_see 14 = .ok (.ifCond .lt 9, 3) := by decide +kernel
theorem dX9_see_17 : decode cX9_see 17 = .ok (.iload_n 2, 1) := by decide +kernel
theorem dX9_see_18 : decode cX9_see 18 = .ok (.bipush 12, 2) := by decide +kernel
theorem dX9_see_20 : decode cX9_see 20 = .ok (.if_icmp .le 5, 3) := by decide +kernel
theorem dX9_see_23 : decode cX9_see 23 = .ok (.iconst (-1), 1) := by decide +kernel
theorem dX9_see_24 : decode cX9_see 24 = .ok (.ireturn, 1) := by decide +kernel
theorem dX9_see_25 : decode cX9_see 25 = .ok (.aload_n 0, 1) := by decide +kernel
theorem dX9_see_26 : decode cX9_see 26 = .ok (.getfield 19, 3) := by decide +kernel
theorem dX9_see_29 : decode cX9_see 29 = .ok (.getfield 267, 3) := by decide +kernel
theorem dX9_see_32 : decode cX9_see 32 = .ok (.iload_n 1, 1) := by decide +kernel
theorem dX9_see_33 : decode cX9_see 33 = .ok (.iaload, 1) := by decide +kernel
theorem dX9_see_34 : decode cX9_see 34 = .ok (.istore_n 3, 1) := by decide +kernel
theorem dX9_see_35 : decode cX9_see 35 = .ok (.aload_n 0, 1) := by decide +kernel
theorem dX9_see_36 : decode cX9_see 36 = .ok (.getfield 19, 3) := by decide +kernel
theorem dX9_see_39 : decode cX9_see 39 = .ok (.getfield 267, 3) := by decide +kernel
theorem dX9_see_42 : decode cX9_see 42 = .ok (.iload_n 1, 1) := by decide +kernel
theorem dX9_see_43 : decode cX9_see 43 = .ok (.iload_n 2, 1) := by decide +kernel
theorem dX9_see_44 : decode cX9_see 44 = .ok (.iastore, 1) := by decide +kernel
theorem dX9_see_45 : decode cX9_see 45 = .ok (.iload_n 3, 1) := by decide +kernel
theorem dX9_see_46 : decode cX9_see 46 = .ok (.ireturn, 1) := by decide +kernel
theorem dX9_gone_0 : decode cX9_gone 0 = .ok (.iload_n 1, 1) := by decide +kernel
theorem dX9_gone_1 : decode cX9_gone 1 = .ok (.ifCond .lt 17, 3) := by decide +kernel
theorem dX9_gone_4 : decode cX9_gone 4 = .ok (.iload_n 1, 1) := by decide +kernel
theorem dX9_gone_5 : decode cX9_gone 5 = .ok (.iconst 4, 1) := by decide +kernel
theorem dX9_gone_6 : decode cX9_gone 6 = .ok (.if_icmp .gt 12, 3) := by decide +kernel
theorem dX9_gone_9 : decode cX9_gone 9 = .ok (.iload_n 2, 1) := by decide +kernel
theorem dX9_gone_10 : decode cX9_gone 10 = .ok (.ifCond .lt 8, 3) := by decide +kernel
theorem dX9_gone_13 : decode cX9_gone 13 = .ok (.iload_n 2, 1) := by decide +kernel
theorem dX9_gone_14 : decode cX9_gone 14 = .ok (.iconst 2, 1) := by decide +kernel
theorem dX9_gone_15 : decode cX9_gone 15 = .ok (.if_icmp .le 5, 3) := by decide +kernel
theorem dX9_gone_18 : decode cX9_gone 18 = .ok (.iconst (-1), 1) := by decide +kernel
theorem dX9_gone_19 : decode cX9_gone 19 = .ok (.ireturn, 1) := by decide +kernel
theorem dX9_gone_20 : decode cX9_gone 20 = .ok (.aload_n 0, 1) := by decide +kernel
theorem dX9_gone_21 : decode cX9_gone 21 = .ok (.getfield 10, 3) := by decide +kernel
theorem dX9_gone_24 : decode cX9_gone 24 = .ok (.aload_n 0, 1) := by decide +kernel
theorem dX9_gone_25 : decode cX9_gone 25 = .ok (.getfield 19, 3) := by decide +kernel
theorem dX9_gone_28 : decode cX9_gone 28 = .ok (.getfield 137, 3) := by decide +kernel
theorem dX9_gone_31 : decode cX9_gone 31 = .ok (.invokevirtual 156, 3) := by decide +kernel
theorem dX9_gone_34 : decode cX9_gone 34 = .ok (.istore_n 3, 1) := by decide +kernel
theorem dX9_gone_35 : decode cX9_gone 35 = .ok (.aload_n 0, 1) := by decide +kernel
theorem dX9_gone_36 : decode cX9_gone 36 = .ok (.getfield 49, 3) := by decide +kernel
theorem dX9_gone_39 : decode cX9_gone 39 = .ok (.invokevirtual 207, 3) := by decide +kernel
theorem dX9_gone_42 : decode cX9_gone 42 = .ok (.iconst 1, 1) := by decide +kernel
theorem dX9_gone_43 : decode cX9_gone 43 = .ok (.istore 4, 2) := by decide +kernel
theorem dX9_gone_45 : decode cX9_gone 45 = .ok (.iload 4, 2) := by decide +kernel
theorem dX9_gone_47 : decode cX9_gone 47 = .ok (.iconst 3, 1) := by decide +kernel
theorem dX9_gone_48 : decode cX9_gone 48 = .ok (.if_icmp .gt 53, 3) := by decide +kernel
theorem dX9_gone_51 : decode cX9_gone 51 = .ok (.aload_n 0, 1) := by decide +kernel
theorem dX9_gone_52 : decode cX9_gone 52 = .ok (.getfield 19, 3) := by decide +kernel
theorem dX9_gone_55 : decode cX9_gone 55 = .ok (.getfield 267, 3) := by decide +kernel
theorem dX9_gone_58 : decode cX9_gone 58 = .ok (.iload 4, 2) := by decide +kernel
theorem dX9_gone_60 : decode cX9_gone 60 = .ok (.iaload, 1) := by decide +kernel
theorem dX9_gone_61 : decode cX9_gone 61 = .ok (.bipush (-4), 2) := by decide +kernel
theorem dX9_gone_63 : decode cX9_gone 63 = .ok (.if_icmp .eq 32, 3) := by decide +kernel
theorem dX9_gone_66 : decode cX9_gone 66 = .ok (.aload_n 0, 1) := by decide +kernel
theorem dX9_gone_67 : decode cX9_gone 67 = .ok (.getfield 49, 3) := by decide +kernel
theorem dX9_gone_70 : decode cX9_gone 70 = .ok (.iload_n 3, 1) := by decide +kernel
theorem dX9_gone_71 : decode cX9_gone 71 = .ok (.aload_n 0, 1) := by decide +kernel
theorem dX9_gone_72 : decode cX9_gone 72 = .ok (.getfield 10, 3) := by decide +kernel
theorem dX9_gone_75 : decode cX9_gone 75 = .ok (.getfield 170, 3) := by decide +kernel
theorem dX9_gone_78 : decode cX9_gone 78 = .ok (.iload 4, 2) := by decide +kernel
theorem dX9_gone_80 : decode cX9_gone 80 = .ok (.iaload, 1) := by decide +kernel
theorem dX9_gone_81 : decode cX9_gone 81 = .ok (.iand, 1) := by decide +kernel
theorem dX9_gone_82 : decode cX9_gone 82 = .ok (.aload_n 0, 1) := by decide +kernel
theorem dX9_gone_83 : decode cX9_gone 83 = .ok (.getfield 19, 3) := by decide +kernel
theorem dX9_gone_86 : decode cX9_gone 86 = .ok (.getfield 267, 3) := by decide +kernel
theorem dX9_gone_89 : decode cX9_gone 89 = .ok (.iload 4, 2) := by decide +kernel
theorem dX9_gone_91 : decode cX9_gone 91 = .ok (.iaload, 1) := by decide +kernel
theorem dX9_gone_92 : decode cX9_gone 92 = .ok (.invokevirtual 217, 3) := by decide +kernel
theorem dX9_gone_95 : decode cX9_gone 95 = .ok (.iinc 4 1, 3) := by decide +kernel
theorem dX9_gone_98 : decode cX9_gone 98 = .ok (.goto (-53), 3) := by decide +kernel
theorem dX9_gone_101 : decode cX9_gone 101 = .ok (.aload_n 0, 1) := by decide +kernel
theorem dX9_gone_102 : decode cX9_gone 102 = .ok (.getfield 49, 3) := by decide +kernel
theorem dX9_gone_105 : decode cX9_gone 105 = .ok (.aload_n 0, 1) := by decide +kernel
theorem dX9_gone_106 : decode cX9_gone 106 = .ok (.getfield 10, 3) := by decide +kernel
theorem dX9_gone_109 : decode cX9_gone 109 = .ok (.aload_n 0, 1) := by decide +kernel
theorem dX9_gone_110 : decode cX9_gone 110 = .ok (.getfield 19, 3) := by decide +kernel
theorem dX9_gone_113 : decode cX9_gone 113 = .ok (.getfield 137, 3) := by decide +kernel
theorem dX9_gone_116 : decode cX9_gone 116 = .ok (.iload_n 1, 1) := by decide +kernel
theorem dX9_gone_117 : decode cX9_gone 117 = .ok (.iconst 0, 1) := by decide +kernel
theorem dX9_gone_118 : decode cX9_gone 118 = .ok (.invokevirtual 210, 3) := by decide +kernel
theorem dX9_gone_121 : decode cX9_gone 121 = .ok (.iload_n 2, 1) := by decide +kernel
theorem dX9_gone_122 : decode cX9_gone 122 = .ok (.ifCond .ne 11, 3) := by decide +kernel
theorem dX9_gone_125 : decode cX9_gone 125 = .ok (.aload_n 0, 1) := by decide +kernel
theorem dX9_gone_126 : decode cX9_gone 126 = .ok (.getfield 49, 3) := by decide +kernel
theorem dX9_gone_129 : decode cX9_gone 129 = .ok (.getfield 220, 3) := by decide +kernel
theorem dX9_gone_132 : decode cX9_gone 132 = .ok (.ireturn, 1) := by decide +kernel
theorem dX9_gone_133 : decode cX9_gone 133 = .ok (.aload_n 0, 1) := by decide +kernel
theorem dX9_gone_134 : decode cX9_gone 134 = .ok (.getfield 49, 3) := by decide +kernel
theorem dX9_gone_137 : decode cX9_gone 137 = .ok (.getfield 220, 3) := by decide +kernel
theorem dX9_gone_140 : decode cX9_gone 140 = .ok (.ifCond .ne 6, 3) := by decide +kernel
theorem dX9_gone_143 : decode cX9_gone 143 = .ok (.bipush (-4), 2) := by decide +kernel
theorem dX9_gone_145 : decode cX9_gone 145 = .ok (.ireturn, 1) := by decide +kernel
theorem dX9_gone_146 : decode cX9_gone 146 = .ok (.iload_n 2, 1) := by decide +kernel
theorem dX9_gone_147 : decode cX9_gone 147 = .ok (.iconst 1, 1) := by decide +kernel
theorem dX9_gone_148 : decode cX9_gone 148 = .ok (.if_icmp .ne 13, 3) := by decide +kernel
theorem dX9_gone_151 : decode cX9_gone 151 = .ok (.aload_n 0, 1) := by decide +kernel
theorem dX9_gone_152 : decode cX9_gone 152 = .ok (.getfield 49, 3) := by decide +kernel
theorem dX9_gone_155 : decode cX9_gone 155 = .ok (.getfield 223, 3) := by decide +kernel
theorem dX9_gone_158 : decode cX9_gone 158 = .ok (.goto 10, 3) := by decide +kernel
theorem dX9_gone_161 : decode cX9_gone 161 = .ok (.aload_n 0, 1) := by decide +kernel
theorem dX9_gone_162 : decode cX9_gone 162 = .ok (.getfield 49, 3) := by decide +kernel
theorem dX9_gone_165 : decode cX9_gone 165 = .ok (.getfield 270, 3) := by decide +kernel
theorem dX9_gone_168 : decode cX9_gone 168 = .ok (.ireturn, 1) := by decide +kernel
theorem dX9_play_0 : decode cX9_play 0 = .ok (.iload_n 2, 1) := by decide +kernel
theorem dX9_play_1 : decode cX9_play 1 = .ok (.ifCond .lt 9, 3) := by decide +kernel
theorem dX9_play_4 : decode cX9_play 4 = .ok (.iload_n 2, 1) := by decide +kernel
theorem dX9_play_5 : decode cX9_play 5 = .ok (.bipush 60, 2) := by decide +kernel
theorem dX9_play_7 : decode cX9_play 7 = .ok (.if_icmp .le 5, 3) := by decide +kernel
theorem dX9_play_10 : decode cX9_play 10 = .ok (.iconst (-1), 1) := by decide +kernel
theorem dX9_play_11 : decode cX9_play 11 = .ok (.ireturn, 1) := by decide +kernel
theorem dX9_play_12 : decode cX9_play 12 = .ok (.aload_n 0, 1) := by decide +kernel
theorem dX9_play_13 : decode cX9_play 13 = .ok (.getfield 19, 3) := by decide +kernel
theorem dX9_play_16 : decode cX9_play 16 = .ok (.getfield 137, 3) := by decide +kernel
theorem dX9_play_19 : decode cX9_play 19 = .ok (.istore_n 3, 1) := by decide +kernel
theorem dX9_play_20 : decode cX9_play 20 = .ok (.iload_n 1, 1) := by decide +kernel
theorem dX9_play_21 : decode cX9_play 21 = .ok (.istore 4, 2) := by decide +kernel
theorem dX9_play_23 : decode cX9_play 23 = .ok (.iconst 0, 1) := by decide +kernel
theorem dX9_play_24 : decode cX9_play 24 = .ok (.istore 5, 2) := by decide +kernel
theorem dX9_play_26 : decode cX9_play 26 = .ok (.iload 5, 2) := by decide +kernel
theorem dX9_play_28 : decode cX9_play 28 = .ok (.iload_n 2, 1) := by decide +kernel
theorem dX9_play_29 : decode cX9_play 29 = .ok (.if_icmp .ge 55, 3) := by decide +kernel
theorem dX9_play_32 : decode cX9_play 32 = .ok (.aload_n 0, 1) := by decide +kernel
theorem dX9_play_33 : decode cX9_play 33 = .ok (.getfield 10, 3) := by decide +kernel
theorem dX9_play_36 : decode cX9_play 36 = .ok (.getfield 131, 3) := by decide +kernel
theorem dX9_play_39 : decode cX9_play 39 = .ok (.ifCond .le 45, 3) := by decide +kernel
theorem dX9_play_42 : decode cX9_play 42 = .ok (.iload 4, 2) := by decide +kernel
theorem dX9_play_44 : decode cX9_play 44 = .ok (.ldc_w 273, 3) := by decide +kernel
theorem dX9_play_47 : decode cX9_play 47 = .ok (.imul, 1) := by decide +kernel
theorem dX9_play_48 : decode cX9_play 48 = .ok (.sipush 12345, 3) := by decide +kernel
theorem dX9_play_51 : decode cX9_play 51 = .ok (.iadd, 1) := by decide +kernel
theorem dX9_play_52 : decode cX9_play 52 = .ok (.istore 4, 2) := by decide +kernel
theorem dX9_play_54 : decode cX9_play 54 = .ok (.iload_n 3, 1) := by decide +kernel
theorem dX9_play_55 : decode cX9_play 55 = .ok (.iconst 1, 1) := by decide +kernel
theorem dX9_play_56 : decode cX9_play 56 = .ok (.iload 4, 2) := by decide +kernel
theorem dX9_play_58 : decode cX9_play 58 = .ok (.bipush 16, 2) := by decide +kernel
theorem dX9_play_60 : decode cX9_play 60 = .ok (.iushr, 1) := by decide +kernel
theorem dX9_play_61 : decode cX9_play 61 = .ok (.sipush 32767, 3) := by decide +kernel
theorem dX9_play_64 : decode cX9_play 64 = .ok (.iand, 1) := by decide +kernel
theorem dX9_play_65 : decode cX9_play 65 = .ok (.aload_n 0, 1) := by decide +kernel
theorem dX9_play_66 : decode cX9_play 66 = .ok (.getfield 10, 3) := by decide +kernel
theorem dX9_play_69 : decode cX9_play 69 = .ok (.getfield 131, 3) := by decide +kernel
theorem dX9_play_72 : decode cX9_play 72 = .ok (.irem, 1) := by decide +kernel
theorem dX9_play_73 : decode cX9_play 73 = .ok (.ishl, 1) := by decide +kernel
theorem dX9_play_74 : decode cX9_play 74 = .ok (.iconst (-1), 1) := by decide +kernel
theorem dX9_play_75 : decode cX9_play 75 = .ok (.ixor, 1) := by decide +kernel
theorem dX9_play_76 : decode cX9_play 76 = .ok (.iand, 1) := by decide +kernel
theorem dX9_play_77 : decode cX9_play 77 = .ok (.istore_n 3, 1) := by decide +kernel
theorem dX9_play_78 : decode cX9_play 78 = .ok (.iinc 5 1, 3) := by decide +kernel
theorem dX9_play_81 : decode cX9_play 81 = .ok (.goto (-55), 3) := by decide +kernel
theorem dX9_play_84 : decode cX9_play 84 = .ok (.aload_n 0, 1) := by decide +kernel
theorem dX9_play_85 : decode cX9_play 85 = .ok (.iload_n 3, 1) := by decide +kernel
theorem dX9_play_86 : decode cX9_play 86 = .ok (.invokevirtual 178, 3) := by decide +kernel
theorem dX9_play_89 : decode cX9_play 89 = .ok (.ireturn, 1) := by decide +kernel
theorem dX9_keep_0 : decode cX9_keep 0 = .ok (.iload_n 1, 1) := by decide +kernel
theorem dX9_keep_1 : decode cX9_keep 1 = .ok (.invokestatic 274, 3) := by decide +kernel
theorem dX9_keep_4 : decode cX9_keep 4 = .ok (.ifCond .ne 5, 3) := by decide +kernel
theorem dX9_keep_7 : decode cX9_keep 7 = .ok (.iconst (-1), 1) := by decide +kernel
theorem dX9_keep_8 : decode cX9_keep 8 = .ok (.ireturn, 1) := by decide +kernel
theorem dX9_keep_9 : decode cX9_keep 9 = .ok (.aload_n 0, 1) := by decide +kernel
theorem dX9_keep_10 : decode cX9_keep 10 = .ok (.getfield 120, 3) := by decide +kernel
theorem dX9_keep_13 : decode cX9_keep 13 = .ok (.iload_n 1, 1) := by decide +kernel
theorem dX9_keep_14 : decode cX9_keep 14 = .ok (.ishr, 1) := by decide +kernel
theorem dX9_keep_15 : decode cX9_keep 15 = .ok (.iconst 1, 1) := by decide +kernel
theorem dX9_keep_16 : decode cX9_keep 16 = .ok (.iand, 1) := by decide +kernel
theorem dX9_keep_17 : decode cX9_keep 17 = .ok (.istore_n 2, 1) := by decide +kernel
theorem dX9_keep_18 : decode cX9_keep 18 = .ok (.aload_n 0, 1) := by decide +kernel
theorem dX9_keep_19 : decode cX9_keep 19 = .ok (.getfield 67, 3) := by decide +kernel
theorem dX9_keep_22 : decode cX9_keep 22 = .ok (.iload_n 1, 1) := by decide +kernel
theorem dX9_keep_23 : decode cX9_keep 23 = .ok (.aaload, 1) := by decide +kernel
theorem dX9_keep_24 : decode cX9_keep 24 = .ok (.aload_n 0, 1) := by decide +kernel
theorem dX9_keep_25 : decode cX9_keep 25 = .ok (.getfield 19, 3) := by decide +kernel
theorem dX9_keep_28 : decode cX9_keep 28 = .ok (.invokevirtual 116, 3) := by decide +kernel
theorem dX9_keep_31 : decode cX9_keep 31 = .ok (.aload_n 0, 1) := by decide +kernel
theorem dX9_keep_32 : decode cX9_keep 32 = .ok (.dup, 1) := by decide +kernel
theorem dX9_keep_33 : decode cX9_keep 33 = .ok (.getfield 120, 3) := by decide +kernel
theorem dX9_keep_36 : decode cX9_keep 36 = .ok (.iconst 1, 1) := by decide +kernel
theorem dX9_keep_37 : decode cX9_keep 37 = .ok (.iload_n 1, 1) := by decide +kernel
theorem dX9_keep_38 : decode cX9_keep 38 = .ok (.ishl, 1) := by decide +kernel
theorem dX9_keep_39 : decode cX9_keep 39 = .ok (.ior, 1) := by decide +kernel
theorem dX9_keep_40 : decode cX9_keep 40 = .ok (.putfield 120, 3) := by decide +kernel
theorem dX9_keep_43 : decode cX9_keep 43 = .ok (.iload_n 2, 1) := by decide +kernel
theorem dX9_keep_44 : decode cX9_keep 44 = .ok (.ireturn, 1) := by decide +kernel
theorem dX9_back_0 : decode cX9_back 0 = .ok (.iload_n 1, 1) := by decide +kernel
theorem dX9_back_1 : decode cX9_back 1 = .ok (.invokestatic 274, 3) := by decide +kernel
theorem dX9_back_4 : decode cX9_back 4 = .ok (.ifCond .ne 5, 3) := by decide +kernel
theorem dX9_back_7 : decode cX9_back 7 = .ok (.iconst (-1), 1) := by decide +kernel
theorem dX9_back_8 : decode cX9_back 8 = .ok (.ireturn, 1) := by decide +kernel
theorem dX9_back_9 : decode cX9_back 9 = .ok (.aload_n 0, 1) := by decide +kernel
theorem dX9_back_10 : decode cX9_back 10 = .ok (.getfield 120, 3) := by decide +kernel
theorem dX9_back_13 : decode cX9_back 13 = .ok (.iload_n 1, 1) := by decide +kernel
theorem dX9_back_14 : decode cX9_back 14 = .ok (.ishr, 1) := by decide +kernel
theorem dX9_back_15 : decode cX9_back 15 = .ok (.iconst 1, 1) := by decide +kernel
theorem dX9_back_16 : decode cX9_back 16 = .ok (.iand, 1) := by decide +kernel
theorem dX9_back_17 : decode cX9_back 17 = .ok (.ifCond .ne 6, 3) := by decide +kernel
theorem dX9_back_20 : decode cX9_back 20 = .ok (.bipush (-2), 2) := by decide +kernel
theorem dX9_back_22 : decode cX9_back 22 = .ok (.ireturn, 1) := by decide +kernel
theorem dX9_back_23 : decode cX9_back 23 = .ok (.aload_n 0, 1) := by decide +kernel
theorem dX9_back_24 : decode cX9_back 24 = .ok (.getfield 19, 3) := by decide +kernel
theorem dX9_back_27 : decode cX9_back 27 = .ok (.aload_n 0, 1) := by decide +kernel
theorem dX9_back_28 : decode cX9_back 28 = .ok (.getfield 67, 3) := by decide +kernel
theorem dX9_back_31 : decode cX9_back 31 = .ok (.iload_n 1, 1) := by decide +kernel
theorem dX9_back_32 : decode cX9_back 32 = .ok (.aaload, 1) := by decide +kernel
theorem dX9_back_33 : decode cX9_back 33 = .ok (.invokevirtual 116, 3) := by decide +kernel
theorem dX9_back_36 : decode cX9_back 36 = .ok (.aload_n 0, 1) := by decide +kernel
theorem dX9_back_37 : decode cX9_back 37 = .ok (.aload_n 0, 1) := by decide +kernel
theorem dX9_back_38 : decode cX9_back 38 = .ok (.getfield 19, 3) := by decide +kernel
theorem dX9_back_41 : decode cX9_back 41 = .ok (.getfield 137, 3) := by decide +kernel
theorem dX9_back_44 : decode cX9_back 44 = .ok (.invokevirtual 178, 3) := by decide +kernel
theorem dX9_back_47 : decode cX9_back 47 = .ok (.ireturn, 1) := by decide +kernel
theorem dX9_sheet_0 : decode cX9_sheet 0 = .ok (.iload_n 1, 1) := by decide +kernel
theorem dX9_sheet_1 : decode cX9_sheet 1 = .ok (.invokestatic 277, 3) := by decide +kernel
theorem dX9_sheet_4 : decode cX9_sheet 4 = .ok (.ifCond .eq 16, 3) := by decide +kernel
theorem dX9_sheet_7 : decode cX9_sheet 7 = .ok (.iload_n 2, 1) := by decide +kernel
theorem dX9_sheet_8 : decode cX9_sheet 8 = .ok (.invokestatic 280, 3) := by decide +kernel
theorem dX9_sheet_11 : decode cX9_sheet 11 = .ok (.ifCond .eq 9, 3) := by decide +kernel
theorem dX9_sheet_14 : decode cX9_sheet 14 = .ok (.iload_n 3, 1) := by decide +kernel
theorem dX9_sheet_15 : decode cX9_sheet 15 = .ok (.bipush 40, 2) := by decide +kernel
theorem dX9_sheet_17 : decode cX9_sheet 17 = .ok (.if_icmp .le 5, 3) := by decide +kernel
theorem dX9_sheet_20 : decode cX9_sheet 20 = .ok (.iconst (-1), 1) := by decide +kernel
theorem dX9_sheet_21 : decode cX9_sheet 21 = .ok (.ireturn, 1) := by decide +kernel
theorem dX9_sheet_22 : decode cX9_sheet 22 = .ok (.iload_n 3, 1) := by decide +kernel
theorem dX9_sheet_23 : decode cX9_sheet 23 = .ok (.ifCond .ge 6, 3) := by decide +kernel
theorem dX9_sheet_26 : decode cX9_sheet 26 = .ok (.bipush (-14), 2) := by decide +kernel
theorem dX9_sheet_28 : decode cX9_sheet 28 = .ok (.ireturn, 1) := by decide +kernel
theorem dX9_sheet_29 : decode cX9_sheet 29 = .ok (.aload_n 0, 1) := by decide +kernel
theorem dX9_sheet_30 : decode cX9_sheet 30 = .ok (.getfield 73, 3) := by decide +kernel
theorem dX9_sheet_33 : decode cX9_sheet 33 = .ok (.iload_n 1, 1) := by decide +kernel
theorem dX9_sheet_34 : decode cX9_sheet 34 = .ok (.new 71, 3) := by decide +kernel
theorem dX9_sheet_37 : decode cX9_sheet 37 = .ok (.dup, 1) := by decide +kernel
theorem dX9_sheet_38 : decode cX9_sheet 38 = .ok (.iload_n 2, 1) := by decide +kernel
theorem dX9_sheet_39 : decode cX9_sheet 39 = .ok (.iload_n 3, 1) := by decide +kernel
theorem dX9_sheet_40 : decode cX9_sheet 40 = .ok (.invokespecial 283, 3) := by decide +kernel
theorem dX9_sheet_43 : decode cX9_sheet 43 = .ok (.aastore, 1) := by decide +kernel
theorem dX9_sheet_44 : decode cX9_sheet 44 = .ok (.iconst 1, 1) := by decide +kernel
theorem dX9_sheet_45 : decode cX9_sheet 45 = .ok (.ireturn, 1) := by decide +kernel
theorem dX9_lay_0 : decode cX9_lay 0 = .ok (.iload_n 1, 1) := by decide +kernel
theorem dX9_lay_1 : decode cX9_lay 1 = .ok (.invokestatic 277, 3) := by decide +kernel
theorem dX9_lay_4 : decode cX9_lay 4 = .ok (.ifCond .ne 5, 3) := by decide +kernel
theorem dX9_lay_7 : decode cX9_lay 7 = .ok (.iconst (-1), 1) := by decide +kernel
theorem dX9_lay_8 : decode cX9_lay 8 = .ok (.ireturn, 1) := by decide +kernel
theorem dX9_lay_9 : decode cX9_lay 9 = .ok (.aload_n 0, 1) := by decide +kernel
theorem dX9_lay_10 : decode cX9_lay 10 = .ok (.getfield 73, 3) := by decide +kernel
theorem dX9_lay_13 : decode cX9_lay 13 = .ok (.iload_n 1, 1) := by decide +kernel
theorem dX9_lay_14 : decode cX9_lay 14 = .ok (.aaload, 1) := by decide +kernel
theorem dX9_lay_15 : decode cX9_lay 15 = .ok (.astore 4, 2) := by decide +kernel
theorem dX9_lay_17 : decode cX9_lay 17 = .ok (.aload 4, 2) := by decide +kernel
theorem dX9_lay_19 : decode cX9_lay 19 = .ok (.ifnonnull 6, 3) := by decide +kernel
theorem dX9_lay_22 : decode cX9_lay 22 = .ok (.bipush (-11), 2) := by decide +kernel
theorem dX9_lay_24 : decode cX9_lay 24 = .ok (.ireturn, 1) := by decide +kernel
theorem dX9_lay_25 : decode cX9_lay 25 = .ok (.aload 4, 2) := by decide +kernel
theorem dX9_lay_27 : decode cX9_lay 27 = .ok (.iload_n 2, 1) := by decide +kernel
theorem dX9_lay_28 : decode cX9_lay 28 = .ok (.invokevirtual 285, 3) := by decide +kernel
theorem dX9_lay_31 : decode cX9_lay 31 = .ok (.ifCond .ne 6, 3) := by decide +kernel
theorem dX9_lay_34 : decode cX9_lay 34 = .ok (.bipush (-12), 2) := by decide +kernel
theorem dX9_lay_36 : decode cX9_lay 36 = .ok (.ireturn, 1) := by decide +kernel
theorem dX9_lay_37 : decode cX9_lay 37 = .ok (.aload 4, 2) := by decide +kernel
theorem dX9_lay_39 : decode cX9_lay 39 = .ok (.iload_n 2, 1) := by decide +kernel
theorem dX9_lay_40 : decode cX9_lay 40 = .ok (.iload_n 3, 1) := by decide +kernel
theorem dX9_lay_41 : decode cX9_lay 41 = .ok (.invokevirtual 288, 3) := by decide +kernel
theorem dX9_lay_44 : decode cX9_lay 44 = .ok (.iconst 1, 1) := by decide +kernel
theorem dX9_lay_45 : decode cX9_lay 45 = .ok (.ireturn, 1) := by decide +kernel
theorem dX9_read_0 : decode cX9_read 0 = .ok (.iload_n 1, 1) := by decide +kernel
theorem dX9_read_1 : decode cX9_read 1 = .ok (.invokestatic 277, 3) := by decide +kernel
theorem dX9_read_4 : decode cX9_read 4 = .ok (.ifCond .eq 22, 3) := by decide +kernel
theorem dX9_read_7 : decode cX9_read 7 = .ok (.iload_n 2, 1) := by decide +kernel
theorem dX9_read_8 : decode cX9_read 8 = .ok (.invokestatic 280, 3) := by decide +kernel
theorem dX9_read_11 : decode cX9_read 11 = .ok (.ifCond .eq 15, 3) := by decide +kernel
theorem dX9_read_14 : decode cX9_read 14 = .ok (.iload 4, 2) := by decide +kernel
theorem dX9_read_16 : decode cX9_read 16 = .ok (.ifCond .lt 10, 3) := by decide +kernel
theorem dX9_read_19 : decode cX9_read 19 = .ok (.iload 4, 2) := by decide +kernel
theorem dX9_read_21 : decode cX9_read 21 = .ok (.bipush 20, 2) := by decide +kernel
theorem dX9_read_23 : decode cX9_read 23 = .ok (.if_icmp .le 5, 3) := by decide +kernel
theorem dX9_read_26 : decode cX9_read 26 = .ok (.iconst (-1), 1) := by decide +kernel
theorem dX9_read_27 : decode cX9_read 27 = .ok (.ireturn, 1) := by decide +kernel
theorem dX9_read_28 : decode cX9_read 28 = .ok (.aload_n 0, 1) := by decide +kernel
theorem dX9_read_29 : decode cX9_read 29 = .ok (.getfield 73, 3) := by decide +kernel
theorem dX9_read_32 : decode cX9_read 32 = .ok (.iload_n 1, 1) := by decide +kernel
theorem dX9_read_33 : decode cX9_read 33 = .ok (.aaload, 1) := by decide +kernel
theorem dX9_read_34 : decode cX9_read 34 = .ok (.astore 5, 2) := by decide +kernel
theorem dX9_read_36 : decode cX9_read 36 = .ok (.aload_n 0, 1) := by decide +kernel
theorem dX9_read_37 : decode cX9_read 37 = .ok (.getfield 19, 3) := by decide +kernel
theorem dX9_read_40 : decode cX9_read 40 = .ok (.getfield 137, 3) := by decide +kernel
theorem dX9_read_43 : decode cX9_read 43 = .ok (.istore 6, 2) := by decide +kernel
theorem dX9_read_45 : decode cX9_read 45 = .ok (.iconst 0, 1) := by decide +kernel
theorem dX9_read_46 : decode cX9_read 46 = .ok (.istore 7, 2) := by decide +kernel
theorem dX9_read_48 : decode cX9_read 48 = .ok (.iconst 0, 1) := by decide +kernel
theorem dX9_read_49 : decode cX9_read 49 = .ok (.istore 8, 2) := by decide +kernel
theorem dX9_read_51 : decode cX9_read 51 = .ok (.iconst 0, 1) := by decide +kernel
theorem dX9_read_52 : decode cX9_read 52 = .ok (.istore 9, 2) := by decide +kernel
theorem dX9_read_54 : decode cX9_read 54 = .ok (.iload 9, 2) := by decide +kernel
theorem dX9_read_56 : decode cX9_read 56 = .ok (.iload 4, 2) := by decide +kernel
theorem dX9_read_58 : decode cX9_read 58 = .ok (.if_icmp .ge 93, 3) := by decide +kernel
theorem dX9_read_61 : decode cX9_read 61 = .ok (.iload 8, 2) := by decide +kernel
theorem dX9_read_63 : decode cX9_read 63 = .ok (.ifCond .ne 88, 3) := by decide +kernel
theorem dX9_read_66 : decode cX9_read 66 = .ok (.aload 5, 2) := by decide +kernel
theorem dX9_read_68 : decode cX9_read 68 = .ok (.ifnonnull 9, 3) := by decide +kernel
theorem dX9_read_71 : decode cX9_read 71 = .ok (.iconst 1, 1) := by decide +kernel
theorem dX9_read_72 : decode cX9_read 72 = .ok (.istore 8, 2) := by decide +kernel
theorem dX9_read_74 : decode cX9_read 74 = .ok (.goto 71, 3) := by decide +kernel
theorem dX9_read_77 : decode cX9_read 77 = .ok (.aload 5, 2) := by decide +kernel
theorem dX9_read_79 : decode cX9_read 79 = .ok (.getfield 291, 3) := by decide +kernel
theorem dX9_read_82 : decode cX9_read 82 = .ok (.iload_n 2, 1) := by decide +kernel
theorem dX9_read_83 : decode cX9_read 83 = .ok (.if_icmp .eq 9, 3) := by decide +kernel
theorem dX9_read_86 : decode cX9_read 86 = .ok (.iconst 3, 1) := by decide +kernel
theorem dX9_read_87 : decode cX9_read 87 = .ok (.istore 8, 2) := by decide +kernel
theorem dX9_read_89 : decode cX9_read 89 = .ok (.goto 56, 3) := by decide +kernel
theorem dX9_read_92 : decode cX9_read 92 = .ok (.aload 5, 2) := by decide +kernel
theorem dX9_read_94 : decode cX9_read 94 = .ok (.iload_n 3, 1) := by decide +kernel
theorem dX9_read_95 : decode cX9_read 95 = .ok (.iload 9, 2) := by decide +kernel
theorem dX9_read_97 : decode cX9_read 97 = .ok (.iadd, 1) := by decide +kernel
theorem dX9_read_98 : decode cX9_read 98 = .ok (.invokevirtual 285, 3) := by decide +kernel
theorem dX9_read_101 : decode cX9_read 101 = .ok (.ifCond .ne 9, 3) := by decide +kernel
theorem dX9_read_104 : decode cX9_read 104 = .ok (.iconst 2, 1) := by decide +kernel
theorem dX9_read_105 : decode cX9_read 105 = .ok (.istore 8, 2) := by decide +kernel
theorem dX9_read_107 : decode cX9_read 107 = .ok (.goto 38, 3) := by decide +kernel
theorem dX9_read_110 : decode cX9_read 110 = .ok (.aload_n 0, 1) := by decide +kernel
theorem dX9_read_111 : decode cX9_read 111 = .ok (.aload 5, 2) := by decide +kernel
theorem dX9_read_113 : decode cX9_read 113 = .ok (.getfield 294, 3) := by decide +kernel
theorem dX9_read_116 : decode cX9_read 116 = .ok (.iload_n 3, 1) := by decide +kernel
theorem dX9_read_117 : decode cX9_read 117 = .ok (.iload 9, 2) := by decide +kernel
theorem dX9_read_119 : decode cX9_read 119 = .ok (.iadd, 1) := by decide +kernel
theorem dX9_read_120 : decode cX9_read 120 = .ok (.iaload, 1) := by decide +kernel
theorem dX9_read_121 : decode cX9_read 121 = .ok (.invokevirtual 181, 3) := by decide +kernel
theorem dX9_read_124 : decode cX9_read 124 = .ok (.ifCond .ge 18, 3) := by decide +kernel
theorem dX9_read_127 : decode cX9_read 127 = .ok (.aload_n 0, 1) := by decide +kernel
theorem dX9_read_128 : decode cX9_read 128 = .ok (.getfield 19, 3) := by decide +kernel
theorem dX9_read_131 : decode cX9_read 131 = .ok (.iload 6, 2) := by decide +kernel
theorem dX9_read_133 : decode cX9_read 133 = .ok (.putfield 137, 3) := by decide +kernel
theorem dX9_read_136 : decode cX9_read 136 = .ok (.bipush (-20), 2) := by decide +kernel
theorem dX9_read_138 : decode cX9_read 138 = .ok (.iload 9, 2) := by decide +kernel
theorem dX9_read_140 : decode cX9_read 140 = .ok (.isub, 1) := by decide +kernel
theorem dX9_read_141 : decode cX9_read 141 = .ok (.ireturn, 1) := by decide +kernel
theorem dX9_read_142 : decode cX9_read 142 = .ok (.iinc 7 1, 3) := by decide +kernel
theorem dX9_read_145 : decode cX9_read 145 = .ok (.iinc 9 1, 3) := by decide +kernel
theorem dX9_read_148 : decode cX9_read 148 = .ok (.goto (-94), 3) := by decide +kernel
theorem dX9_read_151 : decode cX9_read 151 = .ok (.aload_n 0, 1) := by decide +kernel
theorem dX9_read_152 : decode cX9_read 152 = .ok (.iload 8, 2) := by decide +kernel
theorem dX9_read_154 : decode cX9_read 154 = .ok (.putfield 297, 3) := by decide +kernel
theorem dX9_read_157 : decode cX9_read 157 = .ok (.iload 7, 2) := by decide +kernel
theorem dX9_read_159 : decode cX9_read 159 = .ok (.ireturn, 1) := by decide +kernel
theorem dX9_torn_0 : decode cX9_torn 0 = .ok (.aload_n 0, 1) := by decide +kernel
theorem dX9_torn_1 : decode cX9_torn 1 = .ok (.getfield 297, 3) := by decide +kernel
theorem dX9_torn_4 : decode cX9_torn 4 = .ok (.ireturn, 1) := by decide +kernel
theorem dX9_count_0 : decode cX9_count 0 = .ok (.iload_n 1, 1) := by decide +kernel
theorem dX9_count_1 : decode cX9_count 1 = .ok (.tableswitch 104 0 5 #[39, 50, 58, 66, 74, 96], 39) := by decide +kernel
theorem dX9_count_40 : decode cX9_count 40 = .ok (.aload_n 0, 1) := by decide +kernel
theorem dX9_count_41 : decode cX9_count 41 = .ok (.getfield 19, 3) := by decide +kernel
theorem dX9_count_44 : decode cX9_count 44 = .ok (.getfield 137, 3) := by decide +kernel
theorem dX9_count_47 : decode cX9_count 47 = .ok (.invokestatic 173, 3) := by decide +kernel
theorem dX9_count_50 : decode cX9_count 50 = .ok (.ireturn, 1) := by decide +kernel
theorem dX9_count_51 : decode cX9_count 51 = .ok (.aload_n 0, 1) := by decide +kernel
theorem dX9_count_52 : decode cX9_count 52 = .ok (.getfield 19, 3) := by decide +kernel
theorem dX9_count_55 : decode cX9_count 55 = .ok (.invokevirtual 300, 3) := by decide +kernel
theorem dX9_count_58 : decode cX9_count 58 = .ok (.ireturn, 1) := by decide +kernel
theorem dX9_count_59 : decode cX9_count 59 = .ok (.aload_n 0, 1) := by decide +kernel
theorem dX9_count_60 : decode cX9_count 60 = .ok (.getfield 120, 3) := by decide +kernel
theorem dX9_count_63 : decode cX9_count 63 = .ok (.invokestatic 173, 3) := by decide +kernel
theorem dX9_count_66 : decode cX9_count 66 = .ok (.ireturn, 1) := by decide +kernel
theorem dX9_count_67 : decode cX9_count 67 = .ok (.aload_n 0, 1) := by decide +kernel
theorem dX9_count_68 : decode cX9_count 68 = .ok (.getfield 26, 3) := by decide +kernel
theorem dX9_count_71 : decode cX9_count 71 = .ok (.getfield 96, 3) := by decide +kernel
theorem dX9_count_74 : decode cX9_count 74 = .ok (.ireturn, 1) := by decide +kernel
theorem dX9_count_75 : decode cX9_count 75 = .ok (.aload_n 0, 1) := by decide +kernel
theorem dX9_count_76 : decode cX9_count 76 = .ok (.getfield 73, 3) := by decide +kernel
theorem dX9_count_79 : decode cX9_count 79 = .ok (.iconst 0, 1) := by decide +kernel
theorem dX9_count_80 : decode cX9_count 80 = .ok (.aaload, 1) := by decide +kernel
theorem dX9_count_81 : decode cX9_count 81 = .ok (.astore_n 2, 1) := by decide +kernel
theorem dX9_count_82 : decode cX9_count 82 = .ok (.aload_n 2, 1) := by decide +kernel
theorem dX9_count_83 : decode cX9_count 83 = .ok (.ifnonnull 8, 3) := by decide +kernel
theorem dX9_count_86 : decode cX9_count 86 = .ok (.bipush (-4), 2) := by decide +kernel
theorem dX9_count_88 : decode cX9_count 88 = .ok (.goto 8, 3) := by decide +kernel
theorem dX9_count_91 : decode cX9_count 91 = .ok (.aload_n 2, 1) := by decide +kernel
theorem dX9_count_92 : decode cX9_count 92 = .ok (.getfield 294, 3) := by decide +kernel
theorem dX9_count_95 : decode cX9_count 95 = .ok (.arraylength, 1) := by decide +kernel
theorem dX9_count_96 : decode cX9_count 96 = .ok (.ireturn, 1) := by decide +kernel
theorem dX9_count_97 : decode cX9_count 97 = .ok (.aload_n 0, 1) := by decide +kernel
theorem dX9_count_98 : decode cX9_count 98 = .ok (.getfield 19, 3) := by decide +kernel
theorem dX9_count_101 : decode cX9_count 101 = .ok (.invokevirtual 303, 3) := by decide +kernel
theorem dX9_count_104 : decode cX9_count 104 = .ok (.ireturn, 1) := by decide +kernel
theorem dX9_count_105 : decode cX9_count 105 = .ok (.iconst (-1), 1) := by decide +kernel
theorem dX9_count_106 : decode cX9_count 106 = .ok (.ireturn, 1) := by decide +kernel
theorem dX9_isMatch_0 : decode cX9_isMatch 0 = .ok (.iload_n 1, 1) := by decide +kernel
theorem dX9_isMatch_1 : decode cX9_isMatch 1 = .ok (.ifCond .lt 18, 3) := by decide +kernel
theorem dX9_isMatch_4 : decode cX9_isMatch 4 = .ok (.iload_n 1, 1) := by decide +kernel
theorem dX9_isMatch_5 : decode cX9_isMatch 5 = .ok (.aload_n 0, 1) := by decide +kernel
theorem dX9_isMatch_6 : decode cX9_isMatch 6 = .ok (.getfield 10, 3) := by decide +kernel
theorem dX9_isMatch_9 : decode cX9_isMatch 9 = .ok (.getfield 131, 3) := by decide +kernel
theorem dX9_isMatch_12 : decode cX9_isMatch 12 = .ok (.if_icmp .ge 7, 3) := by decide +kernel
theorem dX9_isMatch_15 : decode cX9_isMatch 15 = .ok (.iconst 1, 1) := by decide +kernel
theorem dX9_isMatch_16 : decode cX9_isMatch 16 = .ok (.goto 4, 3) := by decide +kernel
theorem dX9_isMatch_19 : decode cX9_isMatch 19 = .ok (.iconst 0, 1) := by decide +kernel
theorem dX9_isMatch_20 : decode cX9_isMatch 20 = .ok (.ireturn, 1) := by decide +kernel
theorem dX9_isSize_0 : decode cX9_isSize 0 = .ok (.iload_n 0, 1) := by decide +kernel
theorem dX9_isSize_1 : decode cX9_isSize 1 = .ok (.iconst 1, 1) := by decide +kernel
theorem dX9_isSize_2 : decode cX9_isSize 2 = .ok (.if_icmp .lt 12, 3) := by decide +kernel
theorem dX9_isSize_5 : decode cX9_isSize 5 = .ok (.iload_n 0, 1) := by decide +kernel
theorem dX9_isSize_6 : decode cX9_isSize 6 = .ok (.iconst 3, 1) := by decide +kernel
theorem dX9_isSize_7 : decode cX9_isSize 7 = .ok (.if_icmp .gt 7, 3) := by decide +kernel
theorem dX9_isSize_10 : decode cX9_isSize 10 = .ok (.iconst 1, 1) := by decide +kernel
theorem dX9_isSize_11 : decode cX9_isSize 11 = .ok (.goto 4, 3) := by decide +kernel
theorem dX9_isSize_14 : decode cX9_isSize 14 = .ok (.iconst 0, 1) := by decide +kernel
theorem dX9_isSize_15 : decode cX9_isSize 15 = .ok (.ireturn, 1) := by decide +kernel
theorem dX9_isImage_0 : decode cX9_isImage 0 = .ok (.iload_n 0, 1) := by decide +kernel
theorem dX9_isImage_1 : decode cX9_isImage 1 = .ok (.ifCond .lt 12, 3) := by decide +kernel
theorem dX9_isImage_4 : decode cX9_isImage 4 = .ok (.iload_n 0, 1) := by decide +kernel
theorem dX9_isImage_5 : decode cX9_isImage 5 = .ok (.iconst 2, 1) := by decide +kernel
theorem dX9_isImage_6 : decode cX9_isImage 6 = .ok (.if_icmp .ge 7, 3) := by decide +kernel
theorem dX9_isImage_9 : decode cX9_isImage 9 = .ok (.iconst 1, 1) := by decide +kernel
theorem dX9_isImage_10 : decode cX9_isImage 10 = .ok (.goto 4, 3) := by decide +kernel
theorem dX9_isImage_13 : decode cX9_isImage 13 = .ok (.iconst 0, 1) := by decide +kernel
theorem dX9_isImage_14 : decode cX9_isImage 14 = .ok (.ireturn, 1) := by decide +kernel
theorem dX9_isSheet_0 : decode cX9_isSheet 0 = .ok (.iload_n 0, 1) := by decide +kernel
theorem dX9_isSheet_1 : decode cX9_isSheet 1 = .ok (.ifCond .lt 12, 3) := by decide +kernel
theorem dX9_isSheet_4 : decode cX9_isSheet 4 = .ok (.iload_n 0, 1) := by decide +kernel
theorem dX9_isSheet_5 : decode cX9_isSheet 5 = .ok (.iconst 4, 1) := by decide +kernel
theorem dX9_isSheet_6 : decode cX9_isSheet 6 = .ok (.if_icmp .ge 7, 3) := by decide +kernel
theorem dX9_isSheet_9 : decode cX9_isSheet 9 = .ok (.iconst 1, 1) := by decide +kernel
theorem dX9_isSheet_10 : decode cX9_isSheet 10 = .ok (.goto 4, 3) := by decide +kernel
theorem dX9_isSheet_13 : decode cX9_isSheet 13 = .ok (.iconst 0, 1) := by decide +kernel
theorem dX9_isSheet_14 : decode cX9_isSheet 14 = .ok (.ireturn, 1) := by decide +kernel
theorem dX9_isLane_0 : decode cX9_isLane 0 = .ok (.iload_n 0, 1) := by decide +kernel
theorem dX9_isLane_1 : decode cX9_isLane 1 = .ok (.ifCond .lt 12, 3) := by decide +kernel
theorem dX9_isLane_4 : decode cX9_isLane 4 = .ok (.iload_n 0, 1) := by decide +kernel
theorem dX9_isLane_5 : decode cX9_isLane 5 = .ok (.iconst 3, 1) := by decide +kernel
theorem dX9_isLane_6 : decode cX9_isLane 6 = .ok (.if_icmp .ge 7, 3) := by decide +kernel
theorem dX9_isLane_9 : decode cX9_isLane 9 = .ok (.iconst 1, 1) := by decide +kernel
theorem dX9_isLane_10 : decode cX9_isLane 10 = .ok (.goto 4, 3) := by decide +kernel
theorem dX9_isLane_13 : decode cX9_isLane 13 = .ok (.iconst 0, 1) := by decide +kernel
theorem dX9_isLane_14 : decode cX9_isLane 14 = .ok (.ireturn, 1) := by decide +kernel
theorem dX9_lies_0 : decode cX9_lies 0 = .ok (.aload_n 0, 1) := by decide +kernel
theorem dX9_lies_1 : decode cX9_lies 1 = .ok (.getfield 19, 3) := by decide +kernel
theorem dX9_lies_4 : decode cX9_lies 4 = .ok (.getfield 137, 3) := by decide +kernel
theorem dX9_lies_7 : decode cX9_lies 7 = .ok (.iload_n 1, 1) := by decide +kernel
theorem dX9_lies_8 : decode cX9_lies 8 = .ok (.ishr, 1) := by decide +kernel
theorem dX9_lies_9 : decode cX9_lies 9 = .ok (.iconst 1, 1) := by decide +kernel
theorem dX9_lies_10 : decode cX9_lies 10 = .ok (.iand, 1) := by decide +kernel
theorem dX9_lies_11 : decode cX9_lies 11 = .ok (.ifCond .eq 7, 3) := by decide +kernel
theorem dX9_lies_14 : decode cX9_lies 14 = .ok (.iconst 1, 1) := by decide +kernel
theorem dX9_lies_15 : decode cX9_lies 15 = .ok (.goto 4, 3) := by decide +kernel
theorem dX9_lies_18 : decode cX9_lies 18 = .ok (.iconst 0, 1) := by decide +kernel
theorem dX9_lies_19 : decode cX9_lies 19 = .ok (.ireturn, 1) := by decide +kernel
theorem dX9_takeOne_0 : decode cX9_takeOne 0 = .ok (.aload_n 0, 1) := by decide +kernel
theorem dX9_takeOne_1 : decode cX9_takeOne 1 = .ok (.iload_n 1, 1) := by decide +kernel
theorem dX9_takeOne_2 : decode cX9_takeOne 2 = .ok (.invokevirtual 160, 3) := by decide +kernel
theorem dX9_takeOne_5 : decode cX9_takeOne 5 = .ok (.ifCond .ne 5, 3) := by decide +kernel
theorem dX9_takeOne_8 : decode cX9_takeOne 8 = .ok (.iconst (-1), 1) := by decide +kernel
theorem dX9_takeOne_9 : decode cX9_takeOne 9 = .ok (.ireturn, 1) := by decide +kernel
theorem dX9_takeOne_10 : decode cX9_takeOne 10 = .ok (.aload_n 0, 1) := by decide +kernel
theorem dX9_takeOne_11 : decode cX9_takeOne 11 = .ok (.iload_n 1, 1) := by decide +kernel
theorem dX9_takeOne_12 : decode cX9_takeOne 12 = .ok (.invokevirtual 184, 3) := by decide +kernel
theorem dX9_takeOne_15 : decode cX9_takeOne 15 = .ok (.ifCond .ne 6, 3) := by decide +kernel
theorem dX9_takeOne_18 : decode cX9_takeOne 18 = .ok (.bipush (-2), 2) := by decide +kernel
theorem dX9_takeOne_20 : decode cX9_takeOne 20 = .ok (.ireturn, 1) := by decide +kernel
theorem dX9_takeOne_21 : decode cX9_takeOne 21 = .ok (.aload_n 0, 1) := by decide +kernel
theorem dX9_takeOne_22 : decode cX9_takeOne 22 = .ok (.getfield 19, 3) := by decide +kernel
theorem dX9_takeOne_25 : decode cX9_takeOne 25 = .ok (.dup, 1) := by decide +kernel
theorem dX9_takeOne_26 : decode cX9_takeOne 26 = .ok (.getfield 137, 3) := by decide +kernel
theorem dX9_takeOne_29 : decode cX9_takeOne 29 = .ok (.iconst 1, 1) := by decide +kernel
theorem dX9_takeOne_30 : decode cX9_takeOne 30 = .ok (.iload_n 1, 1) := by decide +kernel
theorem dX9_takeOne_31 : decode cX9_takeOne 31 = .ok (.ishl, 1) := by decide +kernel
theorem dX9_takeOne_32 : decode cX9_takeOne 32 = .ok (.iconst (-1), 1) := by decide +kernel
theorem dX9_takeOne_33 : decode cX9_takeOne 33 = .ok (.ixor, 1) := by decide +kernel
theorem dX9_takeOne_34 : decode cX9_takeOne 34 = .ok (.iand, 1) := by decide +kernel
theorem dX9_takeOne_35 : decode cX9_takeOne 35 = .ok (.putfield 137, 3) := by decide +kernel
theorem dX9_takeOne_38 : decode cX9_takeOne 38 = .ok (.iconst 0, 1) := by decide +kernel
theorem dX9_takeOne_39 : decode cX9_takeOne 39 = .ok (.ireturn, 1) := by decide +kernel
theorem dX9_canBeLaid_0 : decode cX9_canBeLaid 0 = .ok (.iload_n 0, 1) := by decide +kernel
theorem dX9_canBeLaid_1 : decode cX9_canBeLaid 1 = .ok (.ifCond .eq 16, 3) := by decide +kernel
theorem dX9_canBeLaid_4 : decode cX9_canBeLaid 4 = .ok (.iload_n 0, 1) := by decide +kernel
theorem dX9_canBeLaid_5 : decode cX9_canBeLaid 5 = .ok (.invokestatic 173, 3) := by decide +kernel
theorem dX9_canBeLaid_8 : decode cX9_canBeLaid 8 = .ok (.bipush 12, 2) := by decide +kernel
theorem dX9_canBeLaid_10 : decode cX9_canBeLaid 10 = .ok (.if_icmp .gt 7, 3) := by decide +kernel
theorem dX9_canBeLaid_13 : decode cX9_canBeLaid 13 = .ok (.iconst 1, 1) := by decide +kernel
theorem dX9_canBeLaid_14 : decode cX9_canBeLaid 14 = .ok (.goto 4, 3) := by decide +kernel
theorem dX9_canBeLaid_17 : decode cX9_canBeLaid 17 = .ok (.iconst 0, 1) := by decide +kernel
theorem dX9_canBeLaid_18 : decode cX9_canBeLaid 18 = .ok (.ireturn, 1) := by decide +kernel
theorem dX9_countedSquares_0 : decode cX9_countedSquares 0 = .ok (.iconst 0, 1) := by decide +kernel
theorem dX9_countedSquares_1 : decode cX9_countedSquares 1 = .ok (.istore_n 1, 1) := by decide +kernel
theorem dX9_countedSquares_2 : decode cX9_countedSquares 2 = .ok (.iconst 1, 1) := by decide +kernel
theorem dX9_countedSquares_3 : decode cX9_countedSquares 3 = .ok (.istore_n 2, 1) := by decide +kernel
theorem dX9_countedSquares_4 : decode cX9_countedSquares 4 = .ok (.iload_n 2, 1) := by decide +kernel
theorem dX9_countedSquares_5 : decode cX9_countedSquares 5 = .ok (.iconst 3, 1) := by decide +kernel
theorem dX9_countedSquares_6 : decode cX9_countedSquares 6 = .ok (.if_icmp .gt 35, 3) := by decide +kernel
theorem dX9_countedSquares_9 : decode cX9_countedSquares 9 = .ok (.aload_n 0, 1) := by decide +kernel
theorem dX9_countedSquares_10 : decode cX9_countedSquares 10 = .ok (.getfield 19, 3) := by decide +kernel
theorem dX9_countedSquares_13 : decode cX9_countedSquares 13 = .ok (.getfield 140, 3) := by decide +kernel
theorem dX9_countedSquares_16 : decode cX9_countedSquares 16 = .ok (.iload_n 2, 1) := by decide +kernel
theorem dX9_countedSquares_17 : decode cX9_countedSquares 17 = .ok (.ishr, 1) := by decide +kernel
theorem dX9_countedSquares_18 : decode cX9_countedSquares 18 = .ok (.iconst 1, 1) := by decide +kernel
theorem dX9_countedSquares_19 : decode cX9_countedSquares 19 = .ok (.iand, 1) := by decide +kernel
theorem dX9_countedSquares_20 : decode cX9_countedSquares 20 = .ok (.ifCond .eq 15, 3) := by decide +kernel
theorem dX9_countedSquares_23 : decode cX9_countedSquares 23 = .ok (.iload_n 1, 1) := by decide +kernel
theorem dX9_countedSquares_24 : decode cX9_countedSquares 24 = .ok (.aload_n 0, 1) := by decide +kernel
theorem dX9_countedSquares_25 : decode cX9_countedSquares 25 = .ok (.getfield 10, 3) := by decide +kernel
theorem dX9_countedSquares_28 : decode cX9_countedSquares 28 = .ok (.getfield 170, 3) := by decide +kernel
theorem dX9_countedSquares_31 : decode cX9_countedSquares 31 = .ok (.iload_n 2, 1) := by decide +kernel
theorem dX9_countedSquares_32 : decode cX9_countedSquares 32 = .ok (.iaload, 1) := by decide +kernel
theorem dX9_countedSquares_33 : decode cX9_countedSquares 33 = .ok (.ior, 1) := by decide +kernel
theorem dX9_countedSquares_34 : decode cX9_countedSquares 34 = .ok (.istore_n 1, 1) := by decide +kernel
theorem dX9_countedSquares_35 : decode cX9_countedSquares 35 = .ok (.iinc 2 1, 3) := by decide +kernel
theorem dX9_countedSquares_38 : decode cX9_countedSquares 38 = .ok (.goto (-34), 3) := by decide +kernel
theorem dX9_countedSquares_41 : decode cX9_countedSquares 41 = .ok (.iload_n 1, 1) := by decide +kernel
theorem dX9_countedSquares_42 : decode cX9_countedSquares 42 = .ok (.ireturn, 1) := by decide +kernel
theorem dX9_leftSquares_0 : decode cX9_leftSquares 0 = .ok (.aload_n 0, 1) := by decide +kernel
theorem dX9_leftSquares_1 : decode cX9_leftSquares 1 = .ok (.getfield 10, 3) := by decide +kernel
theorem dX9_leftSquares_4 : decode cX9_leftSquares 4 = .ok (.iload_n 1, 1) := by decide +kernel
theorem dX9_leftSquares_5 : decode cX9_leftSquares 5 = .ok (.invokevirtual 156, 3) := by decide +kernel
theorem dX9_leftSquares_8 : decode cX9_leftSquares 8 = .ok (.aload_n 0, 1) := by decide +kernel
theorem dX9_leftSquares_9 : decode cX9_leftSquares 9 = .ok (.invokevirtual 224, 3) := by decide +kernel
theorem dX9_leftSquares_12 : decode cX9_leftSquares 12 = .ok (.iand, 1) := by decide +kernel
theorem dX9_leftSquares_13 : decode cX9_leftSquares 13 = .ok (.ireturn, 1) := by decide +kernel
theorem dX9_leftOf_0 : decode cX9_leftOf 0 = .ok (.aload_n 0, 1) := by decide +kernel
theorem dX9_leftOf_1 : decode cX9_leftOf 1 = .ok (.iload_n 1, 1) := by decide +kernel
theorem dX9_leftOf_2 : decode cX9_leftOf 2 = .ok (.invokevirtual 187, 3) := by decide +kernel
theorem dX9_leftOf_5 : decode cX9_leftOf 5 = .ok (.invokestatic 173, 3) := by decide +kernel
theorem dX9_leftOf_8 : decode cX9_leftOf 8 = .ok (.ireturn, 1) := by decide +kernel
theorem dX9_waysWithout_0 : decode cX9_waysWithout 0 = .ok (.iload_n 2, 1) := by decide +kernel
theorem dX9_waysWithout_1 : decode cX9_waysWithout 1 = .ok (.istore 5, 2) := by decide +kernel
theorem dX9_waysWithout_3 : decode cX9_waysWithout 3 = .ok (.iload 5, 2) := by decide +kernel
theorem dX9_waysWithout_5 : decode cX9_waysWithout 5 = .ok (.aload_n 0, 1) := by decide +kernel
theorem dX9_waysWithout_6 : decode cX9_waysWithout 6 = .ok (.getfield 134, 3) := by decide +kernel
theorem dX9_waysWithout_9 : decode cX9_waysWithout 9 = .ok (.if_icmp .ge 18, 3) := by decide +kernel
theorem dX9_waysWithout_12 : decode cX9_waysWithout 12 = .ok (.iload_n 1, 1) := by decide +kernel
theorem dX9_waysWithout_13 : decode cX9_waysWithout 13 = .ok (.iload 5, 2) := by decide +kernel
theorem dX9_waysWithout_15 : decode cX9_waysWithout 15 = .ok (.ishr, 1) := by decide +kernel
theorem dX9_waysWithout_16 : decode cX9_waysWithout 16 = .ok (.iconst 1, 1) := by decide +kernel
theorem dX9_waysWithout_17 : decode cX9_waysWithout 17 = .ok (.iand, 1) := by decide +kernel
theorem dX9_waysWithout_18 : decode cX9_waysWithout 18 = .ok (.ifCond .ne 9, 3) := by decide +kernel
theorem dX9_waysWithout_21 : decode cX9_waysWithout 21 = .ok (.iinc 5 1, 3) := by decide +kernel
theorem dX9_waysWithout_24 : decode cX9_waysWithout 24 = .ok (.goto (-21), 3) := by decide +kernel
theorem dX9_waysWithout_27 : decode cX9_waysWithout 27 = .ok (.iload 5, 2) := by decide +kernel
theorem dX9_waysWithout_29 : decode cX9_waysWithout 29 = .ok (.aload_n 0, 1) := by decide +kernel
theorem dX9_waysWithout_30 : decode cX9_waysWithout 30 = .ok (.getfield 134, 3) := by decide +kernel
theorem dX9_waysWithout_33 : decode cX9_waysWithout 33 = .ok (.if_icmp .lt 13, 3) := by decide +kernel
theorem dX9_waysWithout_36 : decode cX9_waysWithout 36 = .ok (.lconst 1, 1) := by decide +kernel
theorem dX9_waysWithout_37 : decode cX9_waysWithout 37 = .ok (.iload 4, 2) := by decide +kernel
theorem dX9_waysWithout_39 : decode cX9_waysWithout 39 = .ok (.iload_n 3, 1) := by decide +kernel
theorem dX9_waysWithout_40 : decode cX9_waysWithout 40 = .ok (.invokestatic 173, 3) := by decide +kernel
theorem dX9_waysWithout_43 : decode cX9_waysWithout 43 = .ok (.isub, 1) := by decide +kernel
theorem dX9_waysWithout_44 : decode cX9_waysWithout 44 = .ok (.lshl, 1) := by decide +kernel
theorem dX9_waysWithout_45 : decode cX9_waysWithout 45 = .ok (.lreturn, 1) := by decide +kernel
theorem dX9_waysWithout_46 : decode cX9_waysWithout 46 = .ok (.aload_n 0, 1) := by decide +kernel
theorem dX9_waysWithout_47 : decode cX9_waysWithout 47 = .ok (.iload_n 1, 1) := by decide +kernel
theorem dX9_waysWithout_48 : decode cX9_waysWithout 48 = .ok (.iload 5, 2) := by decide +kernel
theorem dX9_waysWithout_50 : decode cX9_waysWithout 50 = .ok (.iconst 1, 1) := by decide +kernel
theorem dX9_waysWithout_51 : decode cX9_waysWithout 51 = .ok (.iadd, 1) := by decide +kernel
theorem dX9_waysWithout_52 : decode cX9_waysWithout 52 = .ok (.iload_n 3, 1) := by decide +kernel
theorem dX9_waysWithout_53 : decode cX9_waysWithout 53 = .ok (.iload 4, 2) := by decide +kernel
theorem dX9_waysWithout_55 : decode cX9_waysWithout 55 = .ok (.invokestatic 263, 3) := by decide +kernel
theorem dX9_waysWithout_58 : decode cX9_waysWithout 58 = .ok (.aload_n 0, 1) := by decide +kernel
theorem dX9_waysWithout_59 : decode cX9_waysWithout 59 = .ok (.iload_n 1, 1) := by decide +kernel
theorem dX9_waysWithout_60 : decode cX9_waysWithout 60 = .ok (.iload 5, 2) := by decide +kernel
theorem dX9_waysWithout_62 : decode cX9_waysWithout 62 = .ok (.iconst 1, 1) := by decide +kernel
theorem dX9_waysWithout_63 : decode cX9_waysWithout 63 = .ok (.iadd, 1) := by decide +kernel
theorem dX9_waysWithout_64 : decode cX9_waysWithout 64 = .ok (.iload_n 3, 1) := by decide +kernel
theorem dX9_waysWithout_65 : decode cX9_waysWithout 65 = .ok (.aload_n 0, 1) := by decide +kernel
theorem dX9_waysWithout_66 : decode cX9_waysWithout 66 = .ok (.getfield 153, 3) := by decide +kernel
theorem dX9_waysWithout_69 : decode cX9_waysWithout 69 = .ok (.iload 5, 2) := by decide +kernel
theorem dX9_waysWithout_71 : decode cX9_waysWithout 71 = .ok (.iaload, 1) := by decide +kernel
theorem dX9_waysWithout_72 : decode cX9_waysWithout 72 = .ok (.ior, 1) := by decide +kernel
theorem dX9_waysWithout_73 : decode cX9_waysWithout 73 = .ok (.iload 4, 2) := by decide +kernel
theorem dX9_waysWithout_75 : decode cX9_waysWithout 75 = .ok (.invokestatic 263, 3) := by decide +kernel
theorem dX9_waysWithout_78 : decode cX9_waysWithout 78 = .ok (.lsub, 1) := by decide +kernel
theorem dX9_waysWithout_79 : decode cX9_waysWithout 79 = .ok (.lreturn, 1) := by decide +kernel
theorem dX9_inLowestTerms_0 : decode cX9_inLowestTerms 0 = .ok (.lload_n 0, 1) := by decide +kernel
theorem dX9_inLowestTerms_1 : decode cX9_inLowestTerms 1 = .ok (.lstore 4, 2) := by decide +kernel
theorem dX9_inLowestTerms_3 : decode cX9_inLowestTerms 3 = .ok (.iload_n 2, 1) := by decide +kernel
theorem dX9_inLowestTerms_4 : decode cX9_inLowestTerms 4 = .ok (.istore 6, 2) := by decide +kernel
theorem dX9_inLowestTerms_6 : decode cX9_inLowestTerms 6 = .ok (.iconst 0, 1) := by decide +kernel
theorem dX9_inLowestTerms_7 : decode cX9_inLowestTerms 7 = .ok (.istore 7, 2) := by decide +kernel
theorem dX9_inLowestTerms_9 : decode cX9_inLowestTerms 9 = .ok (.iload 7, 2) := by decide +kernel
theorem dX9_inLowestTerms_11 : decode cX9_inLowestTerms 11 = .ok (.iload_n 2, 1) := by decide +kernel
theorem dX9_inLowestTerms_12 : decode cX9_inLowestTerms 12 = .ok (.if_icmp .ge 27, 3) := by decide +kernel
theorem dX9_inLowestTerms_15 : decode cX9_inLowestTerms 15 = .ok (.lload 4, 2) := by decide +kernel
theorem dX9_inLowestTerms_17 : decode cX9_inLowestTerms 17 = .ok (.lconst 1, 1) := by decide +kernel
theorem dX9_inLowestTerms_18 : decode cX9_inLowestTerms 18 = .ok (.land, 1) := by decide +kernel
theorem dX9_inLowestTerms_19 : decode cX9_inLowestTerms 19 = .ok (.lconst 0, 1) := by decide +kernel
theorem dX9_inLowestTerms_20 : decode cX9_inLowestTerms 20 = .ok (.lcmp, 1) := by decide +kernel
theorem dX9_inLowestTerms_21 : decode cX9_inLowestTerms 21 = .ok (.ifCond .ne 18, 3) := by decide +kernel
theorem dX9_inLowestTerms_24 : decode cX9_inLowestTerms 24 = .ok (.lload 4, 2) := by decide +kernel
theorem dX9_inLowestTerms_26 : decode cX9_inLowestTerms 26 = .ok (.iconst 1, 1) := by decide +kernel
theorem dX9_inLowestTerms_27 : decode cX9_inLowestTerms 27 = .ok (.lshr, 1) := by decide +kernel
theorem dX9_inLowestTerms_28 : decode cX9_inLowestTerms 28 = .ok (.lstore 4, 2) := by decide +kernel
theorem dX9_inLowestTerms_30 : decode cX9_inLowestTerms 30 = .ok (.iinc 6 (-1), 3) := by decide +kernel
theorem dX9_inLowestTerms_33 : decode cX9_inLowestTerms 33 = .ok (.iinc 7 1, 3) := by decide +kernel
theorem dX9_inLowestTerms_36 : decode cX9_inLowestTerms 36 = .ok (.goto (-27), 3) := by decide +kernel
theorem dX9_inLowestTerms_39 : decode cX9_inLowestTerms 39 = .ok (.iload_n 3, 1) := by decide +kernel
theorem dX9_inLowestTerms_40 : decode cX9_inLowestTerms 40 = .ok (.ifCond .ne 8, 3) := by decide +kernel
theorem dX9_inLowestTerms_43 : decode cX9_inLowestTerms 43 = .ok (.lload 4, 2) := by decide +kernel
theorem dX9_inLowestTerms_45 : decode cX9_inLowestTerms 45 = .ok (.goto 7, 3) := by decide +kernel
theorem dX9_inLowestTerms_48 : decode cX9_inLowestTerms 48 = .ok (.lconst 1, 1) := by decide +kernel
theorem dX9_inLowestTerms_49 : decode cX9_inLowestTerms 49 = .ok (.iload 6, 2) := by decide +kernel
theorem dX9_inLowestTerms_51 : decode cX9_inLowestTerms 51 = .ok (.lshl, 1) := by decide +kernel
theorem dX9_inLowestTerms_52 : decode cX9_inLowestTerms 52 = .ok (.lreturn, 1) := by decide +kernel
theorem dJ0_length_8abf5_0 : decode cJ0_length_8abf5 0 = .ok (.aload_n 0, 1) := by decide +kernel
theorem dJ0_length_8abf5_1 : decode cJ0_length_8abf5 1 = .ok (.getfield 9, 3) := by decide +kernel
theorem dJ0_length_8abf5_4 : decode cJ0_length_8abf5 4 = .ok (.arraylength, 1) := by decide +kernel
theorem dJ0_length_8abf5_5 : decode cJ0_length_8abf5 5 = .ok (.aload_n 0, 1) := by decide +kernel
theorem dJ0_length_8abf5_6 : decode cJ0_length_8abf5 6 = .ok (.invokevirtual 335, 3) := by decide +kernel
theorem dJ0_length_8abf5_9 : decode cJ0_length_8abf5 9 = .ok (.ishr, 1) := by decide +kernel
theorem dJ0_length_8abf5_10 : decode cJ0_length_8abf5 10 = .ok (.ireturn, 1) := by decide +kernel
theorem dJ0_charAt_5068e_0 : decode cJ0_charAt_5068e 0 = .ok (.aload_n 0, 1) := by decide +kernel
theorem dJ0_charAt_5068e_1 : decode cJ0_charAt_5068e 1 = .ok (.invokevirtual 492, 3) := by decide +kernel
theorem dJ0_charAt_5068e_4 : decode cJ0_charAt_5068e 4 = .ok (.ifCond .eq 12, 3) := by decide +kernel
theorem dJ0_charAt_5068e_7 : decode cJ0_charAt_5068e 7 = .ok (.aload_n 0, 1) := by decide +kernel
theorem dJ0_charAt_5068e_8 : decode cJ0_charAt_5068e 8 = .ok (.getfield 9, 3) := by decide +kernel
theorem dJ0_charAt_5068e_11 : decode cJ0_charAt_5068e 11 = .ok (.iload_n 1, 1) := by decide +kernel
theorem dJ0_charAt_5068e_12 : decode cJ0_charAt_5068e 12 = .ok (.invokestatic 495, 3) := by decide +kernel
theorem dJ0_charAt_5068e_15 : decode cJ0_charAt_5068e 15 = .ok (.ireturn, 1) := by decide +kernel
theorem dJ0_charAt_5068e_16 : decode cJ0_charAt_5068e 16 = .ok (.aload_n 0, 1) := by decide +kernel
theorem dJ0_charAt_5068e_17 : decode cJ0_charAt_5068e 17 = .ok (.getfield 9, 3) := by decide +kernel
theorem dJ0_charAt_5068e_20 : decode cJ0_charAt_5068e 20 = .ok (.iload_n 1, 1) := by decide +kernel
theorem dJ0_charAt_5068e_21 : decode cJ0_charAt_5068e 21 = .ok (.invokestatic 498, 3) := by decide +kernel
theorem dJ0_charAt_5068e_24 : decode cJ0_charAt_5068e 24 = .ok (.ireturn, 1) := by decide +kernel
theorem dJ0_coder_7d493_0 : decode cJ0_coder_7d493 0 = .ok (.getstatic 38, 3) := by decide +kernel
theorem dJ0_coder_7d493_3 : decode cJ0_coder_7d493 3 = .ok (.ifCond .eq 10, 3) := by decide +kernel
theorem dJ0_coder_7d493_6 : decode cJ0_coder_7d493 6 = .ok (.aload_n 0, 1) := by decide +kernel
theorem dJ0_coder_7d493_7 : decode cJ0_coder_7d493 7 = .ok (.getfield 15, 3) := by decide +kernel
theorem dJ0_coder_7d493_10 : decode cJ0_coder_7d493 10 = .ok (.goto 4, 3) := by decide +kernel
theorem dJ0_coder_7d493_13 : decode cJ0_coder_7d493 13 = .ok (.iconst 1, 1) := by decide +kernel
theorem dJ0_coder_7d493_14 : decode cJ0_coder_7d493 14 = .ok (.ireturn, 1) := by decide +kernel
theorem dJ0_isLatin1_aae02_0 : decode cJ0_isLatin1_aae02 0 = .ok (.getstatic 38, 3) := by decide +kernel
theorem dJ0_isLatin1_aae02_3 : decode cJ0_isLatin1_aae02 3 = .ok (.ifCond .eq 14, 3) := by decide +kernel
theorem dJ0_isLatin1_aae02_6 : decode cJ0_isLatin1_aae02 6 = .ok (.aload_n 0, 1) := by decide +kernel
theorem dJ0_isLatin1_aae02_7 : decode cJ0_isLatin1_aae02 7 = .ok (.getfield 15, 3) := by decide +kernel
theorem dJ0_isLatin1_aae02_10 : decode cJ0_isLatin1_aae02 10 = .ok (.ifCond .ne 7, 3) := by decide +kernel
theorem dJ0_isLatin1_aae02_13 : decode cJ0_isLatin1_aae02 13 = .ok (.iconst 1, 1) := by decide +kernel
theorem dJ0_isLatin1_aae02_14 : decode cJ0_isLatin1_aae02 14 = .ok (.goto 4, 3) := by decide +kernel
theorem dJ0_isLatin1_aae02_17 : decode cJ0_isLatin1_aae02 17 = .ok (.iconst 0, 1) := by decide +kernel
theorem dJ0_isLatin1_aae02_18 : decode cJ0_isLatin1_aae02 18 = .ok (.ireturn, 1) := by decide +kernel
theorem dJ0_checkIndex_df160_0 : decode cJ0_checkIndex_df160 0 = .ok (.iload_n 0, 1) := by decide +kernel
theorem dJ0_checkIndex_df160_1 : decode cJ0_checkIndex_df160 1 = .ok (.iload_n 1, 1) := by decide +kernel
theorem dJ0_checkIndex_df160_2 : decode cJ0_checkIndex_df160 2 = .ok (.getstatic 1053, 3) := by decide +kernel
theorem dJ0_checkIndex_df160_5 : decode cJ0_checkIndex_df160 5 = .ok (.invokestatic 1059, 3) := by decide +kernel
theorem dJ0_checkIndex_df160_8 : decode cJ0_checkIndex_df160 8 = .ok (.pop, 1) := by decide +kernel
theorem dJ0_checkIndex_df160_9 : decode cJ0_checkIndex_df160 9 = .ok (.return_, 1) := by decide +kernel
theorem dJ1_charAt_3b067_0 : decode cJ1_charAt_3b067 0 = .ok (.iload_n 1, 1) := by decide +kernel
theorem dJ1_charAt_3b067_1 : decode cJ1_charAt_3b067 1 = .ok (.aload_n 0, 1) := by decide +kernel
theorem dJ1_charAt_3b067_2 : decode cJ1_charAt_3b067 2 = .ok (.arraylength, 1) := by decide +kernel
theorem dJ1_charAt_3b067_3 : decode cJ1_charAt_3b067 3 = .ok (.invokestatic 9, 3) := by decide +kernel
theorem dJ1_charAt_3b067_6 : decode cJ1_charAt_3b067 6 = .ok (.aload_n 0, 1) := by decide +kernel
theorem dJ1_charAt_3b067_7 : decode cJ1_charAt_3b067 7 = .ok (.iload_n 1, 1) := by decide +kernel
theorem dJ1_charAt_3b067_8 : decode cJ1_charAt_3b067 8 = .ok (.baload, 1) := by decide +kernel
theorem dJ1_charAt_3b067_9 : decode cJ1_charAt_3b067 9 = .ok (.sipush 255, 3) := by decide +kernel
theorem dJ1_charAt_3b067_12 : decode cJ1_charAt_3b067 12 = .ok (.iand, 1) := by decide +kernel
theorem dJ1_charAt_3b067_13 : decode cJ1_charAt_3b067 13 = .ok (.i2c, 1) := by decide +kernel
theorem dJ1_charAt_3b067_14 : decode cJ1_charAt_3b067 14 = .ok (.ireturn, 1) := by decide +kernel
theorem dJ2_getChar_3b067_0 : decode cJ2_getChar_3b067 0 = .ok (.getstatic 44, 3) := by decide +kernel
theorem dJ2_getChar_3b067_3 : decode cJ2_getChar_3b067 3 = .ok (.ifCond .ne 25, 3) := by decide +kernel
theorem dJ2_getChar_3b067_6 : decode cJ2_getChar_3b067 6 = .ok (.iload_n 1, 1) := by decide +kernel
theorem dJ2_getChar_3b067_7 : decode cJ2_getChar_3b067 7 = .ok (.ifCond .lt 11, 3) := by decide +kernel
theorem dJ2_getChar_3b067_10 : decode cJ2_getChar_3b067 10 = .ok (.iload_n 1, 1) := by decide +kernel
theorem dJ2_getChar_3b067_11 : decode cJ2_getChar_3b067 11 = .ok (.aload_n 0, 1) := by decide +kernel
theorem dJ2_getChar_3b067_12 : decode cJ2_getChar_3b067 12 = .ok (.invokestatic 48, 3) := by decide +kernel
theorem dJ2_getChar_3b067_15 : decode cJ2_getChar_3b067 15 = .ok (.if_icmp .lt 13, 3) := by decide +kernel
theorem dJ2_getChar_3b067_18 : decode cJ2_getChar_3b067 18 = .ok (.new 52, 3) := by decide +kernel
theorem dJ2_getChar_3b067_21 : decode cJ2_getChar_3b067 21 = .ok (.dup, 1) := by decide +kernel
theorem dJ2_getChar_3b067_22 : decode cJ2_getChar_3b067 22 = .ok (.ldc 54, 2) := by decide +kernel
theorem dJ2_getChar_3b067_24 : decode cJ2_getChar_3b067 24 = .ok (.invokespecial 56, 3) := by decide +kernel
theorem dJ2_getChar_3b067_27 : decode cJ2_getChar_3b067 27 = .ok (.athrow, 1) := by decide +kernel
theorem dJ2_getChar_3b067_28 : decode cJ2_getChar_3b067 28 = .ok (.iload_n 1, 1) := by decide +kernel
theorem dJ2_getChar_3b067_29 : decode cJ2_getChar_3b067 29 = .ok (.iconst 1, 1) := by decide +kernel
theorem dJ2_getChar_3b067_30 : decode cJ2_getChar_3b067 30 = .ok (.ishl, 1) := by decide +kernel
theorem dJ2_getChar_3b067_31 : decode cJ2_getChar_3b067 31 = .ok (.istore_n 1, 1) := by decide +kernel
theorem dJ2_getChar_3b067_32 : decode cJ2_getChar_3b067 32 = .ok (.aload_n 0, 1) := by decide +kernel
theorem dJ2_getChar_3b067_33 : decode cJ2_getChar_3b067 33 = .ok (.iload_n 1, 1) := by decide +kernel
theorem dJ2_getChar_3b067_34 : decode cJ2_getChar_3b067 34 = .ok (.iinc 1 1, 3) := by decide +kernel
theorem dJ2_getChar_3b067_37 : decode cJ2_getChar_3b067 37 = .ok (.baload, 1) := by decide +kernel
theorem dJ2_getChar_3b067_38 : decode cJ2_getChar_3b067 38 = .ok (.sipush 255, 3) := by decide +kernel
theorem dJ2_getChar_3b067_41 : decode cJ2_getChar_3b067 41 = .ok (.iand, 1) := by decide +kernel
theorem dJ2_getChar_3b067_42 : decode cJ2_getChar_3b067 42 = .ok (.getstatic 59, 3) := by decide +kernel
theorem dJ2_getChar_3b067_45 : decode cJ2_getChar_3b067 45 = .ok (.ishl, 1) := by decide +kernel
theorem dJ2_getChar_3b067_46 : decode cJ2_getChar_3b067 46 = .ok (.aload_n 0, 1) := by decide +kernel
theorem dJ2_getChar_3b067_47 : decode cJ2_getChar_3b067 47 = .ok (.iload_n 1, 1) := by decide +kernel
theorem dJ2_getChar_3b067_48 : decode cJ2_getChar_3b067 48 = .ok (.baload, 1) := by decide +kernel
theorem dJ2_getChar_3b067_49 : decode cJ2_getChar_3b067 49 = .ok (.sipush 255, 3) := by decide +kernel
theorem dJ2_getChar_3b067_52 : decode cJ2_getChar_3b067 52 = .ok (.iand, 1) := by decide +kernel
theorem dJ2_getChar_3b067_53 : decode cJ2_getChar_3b067 53 = .ok (.getstatic 63, 3) := by decide +kernel
theorem dJ2_getChar_3b067_56 : decode cJ2_getChar_3b067 56 = .ok (.ishl, 1) := by decide +kernel
theorem dJ2_getChar_3b067_57 : decode cJ2_getChar_3b067 57 = .ok (.ior, 1) := by decide +kernel
theorem dJ2_getChar_3b067_58 : decode cJ2_getChar_3b067 58 = .ok (.i2c, 1) := by decide +kernel
theorem dJ2_getChar_3b067_59 : decode cJ2_getChar_3b067 59 = .ok (.ireturn, 1) := by decide +kernel
theorem dJ2_length_9d52b_0 : decode cJ2_length_9d52b 0 = .ok (.aload_n 0, 1) := by decide +kernel
theorem dJ2_length_9d52b_1 : decode cJ2_length_9d52b 1 = .ok (.arraylength, 1) := by decide +kernel
theorem dJ2_length_9d52b_2 : decode cJ2_length_9d52b 2 = .ok (.iconst 1, 1) := by decide +kernel
theorem dJ2_length_9d52b_3 : decode cJ2_length_9d52b 3 = .ok (.ishr, 1) := by decide +kernel
theorem dJ2_length_9d52b_4 : decode cJ2_length_9d52b 4 = .ok (.ireturn, 1) := by decide +kernel
theorem dJ2_charAt_3b067_0 : decode cJ2_charAt_3b067 0 = .ok (.iload_n 1, 1) := by decide +kernel
theorem dJ2_charAt_3b067_1 : decode cJ2_charAt_3b067 1 = .ok (.aload_n 0, 1) := by decide +kernel
theorem dJ2_charAt_3b067_2 : decode cJ2_charAt_3b067 2 = .ok (.invokestatic 67, 3) := by decide +kernel
theorem dJ2_charAt_3b067_5 : decode cJ2_charAt_3b067 5 = .ok (.aload_n 0, 1) := by decide +kernel
theorem dJ2_charAt_3b067_6 : decode cJ2_charAt_3b067 6 = .ok (.iload_n 1, 1) := by decide +kernel
theorem dJ2_charAt_3b067_7 : decode cJ2_charAt_3b067 7 = .ok (.invokestatic 71, 3) := by decide +kernel
theorem dJ2_charAt_3b067_10 : decode cJ2_charAt_3b067 10 = .ok (.ireturn, 1) := by decide +kernel
theorem dJ2_checkIndex_2214a_0 : decode cJ2_checkIndex_2214a 0 = .ok (.iload_n 0, 1) := by decide +kernel
theorem dJ2_checkIndex_2214a_1 : decode cJ2_checkIndex_2214a 1 = .ok (.aload_n 1, 1) := by decide +kernel
theorem dJ2_checkIndex_2214a_2 : decode cJ2_checkIndex_2214a 2 = .ok (.invokestatic 48, 3) := by decide +kernel
theorem dJ2_checkIndex_2214a_5 : decode cJ2_checkIndex_2214a 5 = .ok (.invokestatic 414, 3) := by decide +kernel
theorem dJ2_checkIndex_2214a_8 : decode cJ2_checkIndex_2214a 8 = .ok (.return_, 1) := by decide +kernel
theorem dJ3_checkIndex_8e157_0 : decode cJ3_checkIndex_8e157 0 = .ok (.iload_n 0, 1) := by decide +kernel
theorem dJ3_checkIndex_8e157_1 : decode cJ3_checkIndex_8e157 1 = .ok (.ifCond .lt 8, 3) := by decide +kernel
theorem dJ3_checkIndex_8e157_4 : decode cJ3_checkIndex_8e157 4 = .ok (.iload_n 0, 1) := by decide +kernel
theorem dJ3_checkIndex_8e157_5 : decode cJ3_checkIndex_8e157 5 = .ok (.iload_n 1, 1) := by decide +kernel
theorem dJ3_checkIndex_8e157_6 : decode cJ3_checkIndex_8e157 6 = .ok (.if_icmp .lt 10, 3) := by decide +kernel
theorem dJ3_checkIndex_8e157_9 : decode cJ3_checkIndex_8e157 9 = .ok (.aload_n 2, 1) := by decide +kernel
theorem dJ3_checkIndex_8e157_10 : decode cJ3_checkIndex_8e157 10 = .ok (.iload_n 0, 1) := by decide +kernel
theorem dJ3_checkIndex_8e157_11 : decode cJ3_checkIndex_8e157 11 = .ok (.iload_n 1, 1) := by decide +kernel
theorem dJ3_checkIndex_8e157_12 : decode cJ3_checkIndex_8e157 12 = .ok (.invokestatic 95, 3) := by decide +kernel
theorem dJ3_checkIndex_8e157_15 : decode cJ3_checkIndex_8e157 15 = .ok (.athrow, 1) := by decide +kernel
theorem dJ3_checkIndex_8e157_16 : decode cJ3_checkIndex_8e157 16 = .ok (.iload_n 0, 1) := by decide +kernel
theorem dJ3_checkIndex_8e157_17 : decode cJ3_checkIndex_8e157 17 = .ok (.ireturn, 1) := by decide +kernel
theorem dJ6_bitCount_0f7a4_0 : decode cJ6_bitCount_0f7a4 0 = .ok (.iload_n 0, 1) := by decide +kernel
theorem dJ6_bitCount_0f7a4_1 : decode cJ6_bitCount_0f7a4 1 = .ok (.iload_n 0, 1) := by decide +kernel
theorem dJ6_bitCount_0f7a4_2 : decode cJ6_bitCount_0f7a4 2 = .ok (.iconst 1, 1) := by decide +kernel
theorem dJ6_bitCount_0f7a4_3 : decode cJ6_bitCount_0f7a4 3 = .ok (.iushr, 1) := by decide +kernel
theorem dJ6_bitCount_0f7a4_4 : decode cJ6_bitCount_0f7a4 4 = .ok (.ldc_w 265, 3) := by decide +kernel
theorem dJ6_bitCount_0f7a4_7 : decode cJ6_bitCount_0f7a4 7 = .ok (.iand, 1) := by decide +kernel
theorem dJ6_bitCount_0f7a4_8 : decode cJ6_bitCount_0f7a4 8 = .ok (.isub, 1) := by decide +kernel
theorem dJ6_bitCount_0f7a4_9 : decode cJ6_bitCount_0f7a4 9 = .ok (.istore_n 0, 1) := by decide +kernel
theorem dJ6_bitCount_0f7a4_10 : decode cJ6_bitCount_0f7a4 10 = .ok (.iload_n 0, 1) := by decide +kernel
theorem dJ6_bitCount_0f7a4_11 : decode cJ6_bitCount_0f7a4 11 = .ok (.ldc_w 266, 3) := by decide +kernel
theorem dJ6_bitCount_0f7a4_14 : decode cJ6_bitCount_0f7a4 14 = .ok (.iand, 1) := by decide +kernel
theorem dJ6_bitCount_0f7a4_15 : decode cJ6_bitCount_0f7a4 15 = .ok (.iload_n 0, 1) := by decide +kernel
theorem dJ6_bitCount_0f7a4_16 : decode cJ6_bitCount_0f7a4 16 = .ok (.iconst 2, 1) := by decide +kernel
theorem dJ6_bitCount_0f7a4_17 : decode cJ6_bitCount_0f7a4 17 = .ok (.iushr, 1) := by decide +kernel
theorem dJ6_bitCount_0f7a4_18 : decode cJ6_bitCount_0f7a4 18 = .ok (.ldc_w 266, 3) := by decide +kernel
theorem dJ6_bitCount_0f7a4_21 : decode cJ6_bitCount_0f7a4 21 = .ok (.iand, 1) := by decide +kernel
theorem dJ6_bitCount_0f7a4_22 : decode cJ6_bitCount_0f7a4 22 = .ok (.iadd, 1) := by decide +kernel
theorem dJ6_bitCount_0f7a4_23 : decode cJ6_bitCount_0f7a4 23 = .ok (.istore_n 0, 1) := by decide +kernel
theorem dJ6_bitCount_0f7a4_24 : decode cJ6_bitCount_0f7a4 24 = .ok (.iload_n 0, 1) := by decide +kernel
theorem dJ6_bitCount_0f7a4_25 : decode cJ6_bitCount_0f7a4 25 = .ok (.iload_n 0, 1) := by decide +kernel
theorem dJ6_bitCount_0f7a4_26 : decode cJ6_bitCount_0f7a4 26 = .ok (.iconst 4, 1) := by decide +kernel
theorem dJ6_bitCount_0f7a4_27 : decode cJ6_bitCount_0f7a4 27 = .ok (.iushr, 1) := by decide +kernel
theorem dJ6_bitCount_0f7a4_28 : decode cJ6_bitCount_0f7a4 28 = .ok (.iadd, 1) := by decide +kernel
theorem dJ6_bitCount_0f7a4_29 : decode cJ6_bitCount_0f7a4 29 = .ok (.ldc_w 267, 3) := by decide +kernel
theorem dJ6_bitCount_0f7a4_32 : decode cJ6_bitCount_0f7a4 32 = .ok (.iand, 1) := by decide +kernel
theorem dJ6_bitCount_0f7a4_33 : decode cJ6_bitCount_0f7a4 33 = .ok (.istore_n 0, 1) := by decide +kernel
theorem dJ6_bitCount_0f7a4_34 : decode cJ6_bitCount_0f7a4 34 = .ok (.iload_n 0, 1) := by decide +kernel
theorem dJ6_bitCount_0f7a4_35 : decode cJ6_bitCount_0f7a4 35 = .ok (.iload_n 0, 1) := by decide +kernel
theorem dJ6_bitCount_0f7a4_36 : decode cJ6_bitCount_0f7a4 36 = .ok (.bipush 8, 2) := by decide +kernel
theorem dJ6_bitCount_0f7a4_38 : decode cJ6_bitCount_0f7a4 38 = .ok (.iushr, 1) := by decide +kernel
theorem dJ6_bitCount_0f7a4_39 : decode cJ6_bitCount_0f7a4 39 = .ok (.iadd, 1) := by decide +kernel
theorem dJ6_bitCount_0f7a4_40 : decode cJ6_bitCount_0f7a4 40 = .ok (.istore_n 0, 1) := by decide +kernel
theorem dJ6_bitCount_0f7a4_41 : decode cJ6_bitCount_0f7a4 41 = .ok (.iload_n 0, 1) := by decide +kernel
theorem dJ6_bitCount_0f7a4_42 : decode cJ6_bitCount_0f7a4 42 = .ok (.iload_n 0, 1) := by decide +kernel
theorem dJ6_bitCount_0f7a4_43 : decode cJ6_bitCount_0f7a4 43 = .ok (.bipush 16, 2) := by decide +kernel
theorem dJ6_bitCount_0f7a4_45 : decode cJ6_bitCount_0f7a4 45 = .ok (.iushr, 1) := by decide +kernel
theorem dJ6_bitCount_0f7a4_46 : decode cJ6_bitCount_0f7a4 46 = .ok (.iadd, 1) := by decide +kernel
theorem dJ6_bitCount_0f7a4_47 : decode cJ6_bitCount_0f7a4 47 = .ok (.istore_n 0, 1) := by decide +kernel
theorem dJ6_bitCount_0f7a4_48 : decode cJ6_bitCount_0f7a4 48 = .ok (.iload_n 0, 1) := by decide +kernel
theorem dJ6_bitCount_0f7a4_49 : decode cJ6_bitCount_0f7a4 49 = .ok (.bipush 63, 2) := by decide +kernel
theorem dJ6_bitCount_0f7a4_51 : decode cJ6_bitCount_0f7a4 51 = .ok (.iand, 1) := by decide +kernel
theorem dJ6_bitCount_0f7a4_52 : decode cJ6_bitCount_0f7a4 52 = .ok (.ireturn, 1) := by decide +kernel
theorem dJ7_fill_53178_0 : decode cJ7_fill_53178 0 = .ok (.iconst 0, 1) := by decide +kernel
theorem dJ7_fill_53178_1 : decode cJ7_fill_53178 1 = .ok (.istore_n 2, 1) := by decide +kernel
theorem dJ7_fill_53178_2 : decode cJ7_fill_53178 2 = .ok (.aload_n 0, 1) := by decide +kernel
theorem dJ7_fill_53178_3 : decode cJ7_fill_53178 3 = .ok (.arraylength, 1) := by decide +kernel
theorem dJ7_fill_53178_4 : decode cJ7_fill_53178 4 = .ok (.istore_n 3, 1) := by decide +kernel
theorem dJ7_fill_53178_5 : decode cJ7_fill_53178 5 = .ok (.iload_n 2, 1) := by decide +kernel
theorem dJ7_fill_53178_6 : decode cJ7_fill_53178 6 = .ok (.iload_n 3, 1) := by decide +kernel
theorem dJ7_fill_53178_7 : decode cJ7_fill_53178 7 = .ok (.if_icmp .ge 13, 3) := by decide +kernel
theorem dJ7_fill_53178_10 : decode cJ7_fill_53178 10 = .ok (.aload_n 0, 1) := by decide +kernel
theorem dJ7_fill_53178_11 : decode cJ7_fill_53178 11 = .ok (.iload_n 2, 1) := by decide +kernel
theorem dJ7_fill_53178_12 : decode cJ7_fill_53178 12 = .ok (.iload_n 1, 1) := by decide +kernel
theorem dJ7_fill_53178_13 : decode cJ7_fill_53178 13 = .ok (.iastore, 1) := by decide +kernel
theorem dJ7_fill_53178_14 : decode cJ7_fill_53178 14 = .ok (.iinc 2 1, 3) := by decide +kernel
theorem dJ7_fill_53178_17 : decode cJ7_fill_53178 17 = .ok (.goto (-12), 3) := by decide +kernel
theorem dJ7_fill_53178_20 : decode cJ7_fill_53178 20 = .ok (.return_, 1) := by decide +kernel
theorem dJ9_min_7cf53_0 : decode cJ9_min_7cf53 0 = .ok (.iload_n 0, 1) := by decide +kernel
theorem dJ9_min_7cf53_1 : decode cJ9_min_7cf53 1 = .ok (.iload_n 1, 1) := by decide +kernel
theorem dJ9_min_7cf53_2 : decode cJ9_min_7cf53 2 = .ok (.if_icmp .gt 7, 3) := by decide +kernel
theorem dJ9_min_7cf53_5 : decode cJ9_min_7cf53 5 = .ok (.iload_n 0, 1) := by decide +kernel
theorem dJ9_min_7cf53_6 : decode cJ9_min_7cf53 6 = .ok (.goto 4, 3) := by decide +kernel
theorem dJ9_min_7cf53_9 : decode cJ9_min_7cf53 9 = .ok (.iload_n 1, 1) := by decide +kernel
theorem dJ9_min_7cf53_10 : decode cJ9_min_7cf53 10 = .ok (.ireturn, 1) := by decide +kernel
end
section
theorem dX10_init_0 : decode cX10_init 0 = .ok (.aload_n 0, 1) := by decide +kernel
theorem dX10_init_1 : decode cX10_init 1 = .ok (.invokespecial 1, 3) := by decide +kernel
theorem dX10_init_4 : decode cX10_init 4 = .ok (.aload_n 0, 1) := by decide +kernel
theorem dX10_init_5 : decode cX10_init 5 = .ok (.bipush 108, 2) := by decide +kernel
theorem dX10_init_7 : decode cX10_init 7 = .ok (.newarray .int, 2) := by decide +kernel
theorem dX10_init_9 : decode cX10_init 9 = .ok (.putfield 7, 3) := by decide +kernel
theorem dX10_init_12 : decode cX10_init 12 = .ok (.aload_n 0, 1) := by decide +kernel
theorem dX10_init_13 : decode cX10_init 13 = .ok (.iconst 2, 1) := by decide +kernel
theorem dX10_init_14 : decode cX10_init 14 = .ok (.newarray .boolean, 2) := by decide +kernel
theorem dX10_init_16 : decode cX10_init 16 = .ok (.putfield 13, 3) := by decide +kernel
theorem dX10_init_19 : decode cX10_init 19 = .ok (.aload_n 0, 1) := by decide +kernel
theorem dX10_init_20 : decode cX10_init 20 = .ok (.bipush 20, 2) := by decide +kernel
theorem dX10_init_22 : decode cX10_init 22 = .ok (.newarray .int, 2) := by decide +kernel
theorem dX10_init_24 : decode cX10_init 24 = .ok (.putfield 17, 3) := by decide +kernel
theorem dX10_init_27 : decode cX10_init 27 = .ok (.aload_n 0, 1) := by decide +kernel
theorem dX10_init_28 : decode cX10_init 28 = .ok (.bipush 20, 2) := by decide +kernel
theorem dX10_init_30 : decode cX10_init 30 = .ok (.newarray .int, 2) := by decide +kernel
theorem dX10_init_32 : decode cX10_init 32 = .ok (.putfield 20, 3) := by decide +kernel
theorem dX10_init_35 : decode cX10_init 35 = .ok (.aload_n 0, 1) := by decide +kernel
theorem dX10_init_36 : decode cX10_init 36 = .ok (.bipush 20, 2) := by decide +kernel
theorem dX10_init_38 : decode cX10_init 38 = .ok (.newarray .int, 2) := by decide +kernel
theorem dX10_init_40 : decode cX10_init 40 = .ok (.putfield 23, 3) := by decide +kernel
theorem dX10_init_43 : decode cX10_init 43 = .ok (.aload_n 0, 1) := by decide +kernel
theorem dX10_init_44 : decode cX10_init 44 = .ok (.bipush 20, 2) := by decide +kernel
theorem dX10_init_46 : decode cX10_init 46 = .ok (.newarray .int, 2) := by decide +kernel
theorem dX10_init_48 : decode cX10_init 48 = .ok (.putfield 26, 3) := by decide +kernel
theorem dX10_init_51 : decode cX10_init 51 = .ok (.aload_n 0, 1) := by decide +kernel
theorem dX10_init_52 : decode cX10_init 52 = .ok (.bipush 31, 2) := by decide +kernel
theorem dX10_init_54 : decode cX10_init 54 = .ok (.newarray .int, 2) := by decide +kernel
theorem dX10_init_56 : decode cX10_init 56 = .ok (.putfield 29, 3) := by decide +kernel
theorem dX10_init_59 : decode cX10_init 59 = .ok (.aload_n 0, 1) := by decide +kernel
theorem dX10_init_60 : decode cX10_init 60 = .ok (.iconst 4, 1) := by decide +kernel
theorem dX10_init_61 : decode cX10_init 61 = .ok (.newarray .int, 2) := by decide +kernel
theorem dX10_init_63 : decode cX10_init 63 = .ok (.putfield 32, 3) := by decide +kernel
theorem dX10_init_66 : decode cX10_init 66 = .ok (.aload_n 0, 1) := by decide +kernel
theorem dX10_init_67 : decode cX10_init 67 = .ok (.sipush 320, 3) := by decide +kernel
theorem dX10_init_70 : decode cX10_init 70 = .ok (.newarray .int, 2) := by decide +kernel
theorem dX10_init_72 : decode cX10_init 72 = .ok (.putfield 35, 3) := by decide +kernel
theorem dX10_init_75 : decode cX10_init 75 = .ok (.aload_n 0, 1) := by decide +kernel
theorem dX10_init_76 : decode cX10_init 76 = .ok (.bipush 32, 2) := by decide +kernel
theorem dX10_init_78 : decode cX10_init 78 = .ok (.newarray .int, 2) := by decide +kernel
theorem dX10_init_80 : decode cX10_init 80 = .ok (.putfield 38, 3) := by decide +kernel
theorem dX10_init_83 : decode cX10_init 83 = .ok (.aload_n 0, 1) := by decide +kernel
theorem dX10_init_84 : decode cX10_init 84 = .ok (.bipush 32, 2) := by decide +kernel
theorem dX10_init_86 : decode cX10_init 86 = .ok (.newarray .int, 2) := by decide +kernel
theorem dX10_init_88 : decode cX10_init 88 = .ok (.putfield 41, 3) := by decide +kernel
theorem dX10_init_91 : decode cX10_init 91 = .ok (.aload_n 0, 1) := by decide +kernel
theorem dX10_init_92 : decode cX10_init 92 = .ok (.bipush 32, 2) := by decide +kernel
theorem dX10_init_94 : decode cX10_init 94 = .ok (.newarray .int, 2) := by decide +kernel
theorem dX10_init_96 : decode cX10_init 96 = .ok (.putfield 44, 3) := by decide +kernel
theorem dX10_init_99 : decode cX10_init 99 = .ok (.aload_n 0, 1) := by decide +kernel
theorem dX10_init_100 : decode cX10_init 100 = .ok (.bipush 32, 2) := by decide +kernel
theorem dX10_init_102 : decode cX10_init 102 = .ok (.newarray .int, 2) := by decide +kernel
theorem dX10_init_104 : decode cX10_init 104 = .ok (.putfield 47, 3) := by decide +kernel
theorem dX10_init_107 : decode cX10_init 107 = .ok (.aload_n 0, 1) := by decide +kernel
theorem dX10_init_108 : decode cX10_init 108 = .ok (.bipush 32, 2) := by decide +kernel
theorem dX10_init_110 : decode cX10_init 110 = .ok (.newarray .int, 2) := by decide +kernel
theorem dX10_init_112 : decode cX10_init 112 = .ok (.putfield 50, 3) := by decide +kernel
theorem dX10_init_115 : decode cX10_init 115 = .ok (.aload_n 0, 1) := by decide +kernel
theorem dX10_init_116 : decode cX10_init 116 = .ok (.bipush 31, 2) := by decide +kernel
theorem dX10_init_118 : decode cX10_init 118 = .ok (.newarray .int, 2) := by decide +kernel
theorem dX10_init_120 : decode cX10_init 120 = .ok (.putfield 53, 3) := by decide +kernel
theorem dX10_init_123 : decode cX10_init 123 = .ok (.aload_n 0, 1) := by decide +kernel
theorem dX10_init_124 : decode cX10_init 124 = .ok (.iconst 4, 1) := by decide +kernel
theorem dX10_init_125 : decode cX10_init 125 = .ok (.newarray .int, 2) := by decide +kernel
theorem dX10_init_127 : decode cX10_init 127 = .ok (.putfield 56, 3) := by decide +kernel
theorem dX10_init_130 : decode cX10_init 130 = .ok (.aload_n 0, 1) := by decide +kernel
theorem dX10_init_131 : decode cX10_init 131 = .ok (.sipush 465, 3) := by decide +kernel
theorem dX10_init_134 : decode cX10_init 134 = .ok (.newarray .int, 2) := by decide +kernel
theorem dX10_init_136 : decode cX10_init 136 = .ok (.putfield 59, 3) := by decide +kernel
theorem dX10_init_139 : decode cX10_init 139 = .ok (.aload_n 0, 1) := by decide +kernel
theorem dX10_init_140 : decode cX10_init 140 = .ok (.sipush 4096, 3) := by decide +kernel
theorem dX10_init_143 : decode cX10_init 143 = .ok (.newarray .int, 2) := by decide +kernel
theorem dX10_init_145 : decode cX10_init 145 = .ok (.putfield 62, 3) := by decide +kernel
theorem dX10_init_148 : decode cX10_init 148 = .ok (.aload_n 0, 1) := by decide +kernel
theorem dX10_init_149 : decode cX10_init 149 = .ok (.sipush 4096, 3) := by decide +kernel
theorem dX10_init_152 : decode cX10_init 152 = .ok (.newarray .int, 2) := by decide +kernel
theorem dX10_init_154 : decode cX10_init 154 = .ok (.putfield 65, 3) := by decide +kernel
theorem dX10_init_157 : decode cX10_init 157 = .ok (.aload_n 0, 1) := by decide +kernel
theorem dX10_init_158 : decode cX10_init 158 = .ok (.iconst 4, 1) := by decide +kernel
theorem dX10_init_159 : decode cX10_init 159 = .ok (.newarray .int, 2) := by decide +kernel
theorem dX10_init_161 : decode cX10_init 161 = .ok (.putfield 68, 3) := by decide +kernel
theorem dX10_init_164 : decode cX10_init 164 = .ok (.aload_n 0, 1) := by decide +kernel
theorem dX10_init_165 : decode cX10_init 165 = .ok (.iconst 4, 1) := by decide +kernel
theorem dX10_init_166 : decode cX10_init 166 = .ok (.newarray .int, 2) := by decide +kernel
theorem dX10_init_168 : decode cX10_init 168 = .ok (.putfield 71, 3) := by decide +kernel
theorem dX10_init_171 : decode cX10_init 171 = .ok (.aload_n 0, 1) := by decide +kernel
theorem dX10_init_172 : decode cX10_init 172 = .ok (.sipush 160, 3) := by decide +kernel
theorem dX10_init_175 : decode cX10_init 175 = .ok (.newarray .int, 2) := by decide +kernel
theorem dX10_init_177 : decode cX10_init 177 = .ok (.putfield 74, 3) := by decide +kernel
theorem dX10_init_180 : decode cX10_init 180 = .ok (.iconst 0, 1) := by decide +kernel
theorem dX10_init_181 : decode cX10_init 181 = .ok (.istore_n 1, 1) := by decide +kernel
theorem dX10_init_182 : decode cX10_init 182 = .ok (.iload_n 1, 1) := by decide +kernel
theorem dX10_init_183 : decode cX10_init 183 = .ok (.iconst 4, 1) := by decide +kernel
theorem dX10_init_184 : decode cX10_init 184 = .ok (.if_icmp .ge 17, 3) := by decide +kernel
theorem dX10_init_187 : decode cX10_init 187 = .ok (.aload_n 0, 1) := by decide +kernel
theorem dX10_init_188 : decode cX10_init 188 = .ok (.getfield 68, 3) := by decide +kernel
theorem dX10_init_191 : decode cX10_init 191 = .ok (.iload_n 1, 1) := by decide +kernel
theorem dX10_init_192 : decode cX10_init 192 = .ok (.bipush (-4), 2) := by decide +kernel
theorem dX10_init_194 : decode cX10_init 194 = .ok (.iastore, 1) := by decide +kernel
theorem dX10_init_195 : decode cX10_init 195 = .ok (.iinc 1 1, 3) := by decide +kernel
theorem dX10_init_198 : decode cX10_init 198 = .ok (.goto (-16), 3) := by decide +kernel
theorem dX10_init_201 : decode cX10_init 201 = .ok (.aload_n 0, 1) := by decide +kernel
theorem dX10_init_202 : decode cX10_init 202 = .ok (.invokevirtual 77, 3) := by decide +kernel
theorem dX10_init_205 : decode cX10_init 205 = .ok (.aload_n 0, 1) := by decide +kernel
theorem dX10_init_206 : decode cX10_init 206 = .ok (.invokevirtual 80, 3) := by decide +kernel
theorem dX10_init_209 : decode cX10_init 209 = .ok (.return_, 1) := by decide +kernel
theorem dX10_in_0 : decode cX10_in 0 = .ok (.lload_n 0, 1) := by decide +kernel
theorem dX10_in_1 : decode cX10_in 1 = .ok (.lload_n 2, 1) := by decide +kernel
theorem dX10_in_2 : decode cX10_in 2 = .ok (.lcmp, 1) := by decide +kernel
theorem dX10_in_3 : decode cX10_in 3 = .ok (.ifCond .lt 14, 3) := by decide +kernel
theorem dX10_in_6 : decode cX10_in 6 = .ok (.lload_n 0, 1) := by decide +kernel
theorem dX10_in_7 : decode cX10_in 7 = .ok (.lload 4, 2) := by decide +kernel
theorem dX10_in_9 : decode cX10_in 9 = .ok (.lcmp, 1) := by decide +kernel
theorem dX10_in_10 : decode cX10_in 10 = .ok (.ifCond .gt 7, 3) := by decide +kernel
theorem dX10_in_13 : decode cX10_in 13 = .ok (.iconst 1, 1) := by decide +kernel
theorem dX10_in_14 : decode cX10_in 14 = .ok (.goto 4, 3) := by decide +kernel
theorem dX10_in_17 : decode cX10_in 17 = .ok (.iconst 0, 1) := by decide +kernel
theorem dX10_in_18 : decode cX10_in 18 = .ok (.ireturn, 1) := by decide +kernel
theorem dX10_flag_0 : decode cX10_flag 0 = .ok (.iload_n 0, 1) := by decide +kernel
theorem dX10_flag_1 : decode cX10_flag 1 = .ok (.ifCond .eq 7, 3) := by decide +kernel
theorem dX10_flag_4 : decode cX10_flag 4 = .ok (.iconst 1, 1) := by decide +kernel
theorem dX10_flag_5 : decode cX10_flag 5 = .ok (.goto 4, 3) := by decide +kernel
theorem dX10_flag_8 : decode cX10_flag 8 = .ok (.iconst 0, 1) := by decide +kernel
theorem dX10_flag_9 : decode cX10_flag 9 = .ok (.ireturn, 1) := by decide +kernel
theorem dX10_bitsOf_0 : decode cX10_bitsOf 0 = .ok (.iconst 0, 1) := by decide +kernel
theorem dX10_bitsOf_1 : decode cX10_bitsOf 1 = .ok (.istore_n 1, 1) := by decide +kernel
theorem dX10_bitsOf_2 : decode cX10_bitsOf 2 = .ok (.iconst 0, 1) := by decide +kernel
theorem dX10_bitsOf_3 : decode cX10_bitsOf 3 = .ok (.istore_n 2, 1) := by decide +kernel
theorem dX10_bitsOf_4 : decode cX10_bitsOf 4 = .ok (.iload_n 2, 1) := by decide +kernel
theorem dX10_bitsOf_5 : decode cX10_bitsOf 5 = .ok (.bipush 31, 2) := by decide +kernel
theorem dX10_bitsOf_7 : decode cX10_bitsOf 7 = .ok (.if_icmp .ge 17, 3) := by decide +kernel
theorem dX10_bitsOf_10 : decode cX10_bitsOf 10 = .ok (.iload_n 1, 1) := by decide +kernel
theorem dX10_bitsOf_11 : decode cX10_bitsOf 11 = .ok (.iload_n 0, 1) := by decide +kernel
theorem dX10_bitsOf_12 : decode cX10_bitsOf 12 = .ok (.iload_n 2, 1) := by decide +kernel
theorem dX10_bitsOf_13 : decode cX10_bitsOf 13 = .ok (.ishr, 1) := by decide +kernel
theorem dX10_bitsOf_14 : decode cX10_bitsOf 14 = .ok (.iconst 1, 1) := by decide +kernel
theorem dX10_bitsOf_15 : decode cX10_bitsOf 15 = .ok (.iand, 1) := by decide +kernel
theorem dX10_bitsOf_16 : decode cX10_bitsOf 16 = .ok (.iadd, 1) := by decide +kernel
theorem dX10_bitsOf_17 : decode cX10_bitsOf 17 = .ok (.istore_n 1, 1) := by decide +kernel
theorem dX10_bitsOf_18 : decode cX10_bitsOf 18 = .ok (.iinc 2 1, 3) := by decide +kernel
theorem dX10_bitsOf_21 : decode cX10_bitsOf 21 = .ok (.goto (-17), 3) := by decide +kernel
theorem dX10_bitsOf_24 : decode cX10_bitsOf 24 = .ok (.iload_n 1, 1) := by decide +kernel
theorem dX10_bitsOf_25 : decode cX10_bitsOf 25 = .ok (.ireturn, 1) := by decide +kernel
theorem dX10_firstDraft_0 : decode cX10_firstDraft 0 = .ok (.aload_n 0, 1) := by decide +kernel
theorem dX10_firstDraft_1 : decode cX10_firstDraft 1 = .ok (.iconst 2, 1) := by decide +kernel
theorem dX10_firstDraft_2 : decode cX10_firstDraft 2 = .ok (.putfield 83, 3) := by decide +kernel
theorem dX10_firstDraft_5 : decode cX10_firstDraft 5 = .ok (.aload_n 0, 1) := by decide +kernel
theorem dX10_firstDraft_6 : decode cX10_firstDraft 6 = .ok (.iconst 2, 1) := by decide +kernel
theorem dX10_firstDraft_7 : decode cX10_firstDraft 7 = .ok (.putfield 87, 3) := by decide +kernel
theorem dX10_firstDraft_10 : decode cX10_firstDraft 10 = .ok (.aload_n 0, 1) := by decide +kernel
theorem dX10_firstDraft_11 : decode cX10_firstDraft 11 = .ok (.iconst 0, 1) := by decide +kernel
theorem dX10_firstDraft_12 : decode cX10_firstDraft 12 = .ok (.putfield 90, 3) := by decide +kernel
theorem dX10_firstDraft_15 : decode cX10_firstDraft 15 = .ok (.iconst 0, 1) := by decide +kernel
theorem dX10_firstDraft_16 : decode cX10_firstDraft 16 = .ok (.istore_n 1, 1) := by decide +kernel
theorem dX10_firstDraft_17 : decode cX10_firstDraft 17 = .ok (.iload_n 1, 1) := by decide +kernel
theorem dX10_firstDraft_18 : decode cX10_firstDraft 18 = .ok (.bipush 31, 2) := by decide +kernel
theorem dX10_firstDraft_20 : decode cX10_firstDraft 20 = .ok (.if_icmp .ge 16, 3) := by decide +kernel
theorem dX10_firstDraft_23 : decode cX10_firstDraft 23 = .ok (.aload_n 0, 1) := by decide +kernel
theorem dX10_firstDraft_24 : decode cX10_firstDraft 24 = .ok (.getfield 29, 3) := by decide +kernel
theorem dX10_firstDraft_27 : decode cX10_firstDraft 27 = .ok (.iload_n 1, 1) := by decide +kernel
theorem dX10_firstDraft_28 : decode cX10_firstDraft 28 = .ok (.iconst 0, 1) := by decide +kernel
theorem dX10_firstDraft_29 : decode cX10_firstDraft 29 = .ok (.iastore, 1) := by decide +kernel
theorem dX10_firstDraft_30 : decode cX10_firstDraft 30 = .ok (.iinc 1 1, 3) := by decide +kernel
theorem dX10_firstDraft_33 : decode cX10_firstDraft 33 = .ok (.goto (-16), 3) := by decide +kernel
theorem dX10_firstDraft_36 : decode cX10_firstDraft 36 = .ok (.aload_n 0, 1) := by decide +kernel
theorem dX10_firstDraft_37 : decode cX10_firstDraft 37 = .ok (.iconst 0, 1) := by decide +kernel
theorem dX10_firstDraft_38 : decode cX10_firstDraft 38 = .ok (.putfield 93, 3) := by decide +kernel
theorem dX10_firstDraft_41 : decode cX10_firstDraft 41 = .ok (.iconst 0, 1) := by decide +kernel
theorem dX10_firstDraft_42 : decode cX10_firstDraft 42 = .ok (.istore_n 1, 1) := by decide +kernel
theorem dX10_firstDraft_43 : decode cX10_firstDraft 43 = .ok (.iload_n 1, 1) := by decide +kernel
theorem dX10_firstDraft_44 : decode cX10_firstDraft 44 = .ok (.iconst 3, 1) := by decide +kernel
theorem dX10_firstDraft_45 : decode cX10_firstDraft 45 = .ok (.if_icmp .gt 17, 3) := by decide +kernel
theorem dX10_firstDraft_48 : decode cX10_firstDraft 48 = .ok (.aload_n 0, 1) := by decide +kernel
theorem dX10_firstDraft_49 : decode cX10_firstDraft 49 = .ok (.getfield 32, 3) := by decide +kernel
theorem dX10_firstDraft_52 : decode cX10_firstDraft 52 = .ok (.iload_n 1, 1) := by decide +kernel
theorem dX10_firstDraft_53 : decode cX10_firstDraft 53 = .ok (.bipush (-4), 2) := by decide +kernel
theorem dX10_firstDraft_55 : decode cX10_firstDraft 55 = .ok (.iastore, 1) := by decide +kernel
theorem dX10_firstDraft_56 : decode cX10_firstDraft 56 = .ok (.iinc 1 1, 3) := by decide +kernel
theorem dX10_firstDraft_59 : decode cX10_firstDraft 59 = .ok (.goto (-16), 3) := by decide +kernel
theorem dX10_firstDraft_62 : decode cX10_firstDraft 62 = .ok (.aload_n 0, 1) := by decide +kernel
theorem dX10_firstDraft_63 : decode cX10_firstDraft 63 = .ok (.iconst 0, 1) := by decide +kernel
theorem dX10_firstDraft_64 : decode cX10_firstDraft 64 = .ok (.putfield 96, 3) := by decide +kernel
theorem dX10_firstDraft_67 : decode cX10_firstDraft 67 = .ok (.aload_n 0, 1) := by decide +kernel
theorem dX10_firstDraft_68 : decode cX10_firstDraft 68 = .ok (.bipush (-4), 2) := by decide +kernel
theorem dX10_firstDraft_70 : decode cX10_firstDraft 70 = .ok (.putfield 100, 3) := by decide +kernel
theorem dX10_firstDraft_73 : decode cX10_firstDraft 73 = .ok (.return_, 1) := by decide +kernel
theorem dX10_acrossAt_0 : decode cX10_acrossAt 0 = .ok (.iload_n 1, 1) := by decide +kernel
theorem dX10_acrossAt_1 : decode cX10_acrossAt 1 = .ok (.aload_n 0, 1) := by decide +kernel
theorem dX10_acrossAt_2 : decode cX10_acrossAt 2 = .ok (.getfield 103, 3) := by decide +kernel
theorem dX10_acrossAt_5 : decode cX10_acrossAt 5 = .ok (.imul, 1) := by decide +kernel
theorem dX10_acrossAt_6 : decode cX10_acrossAt 6 = .ok (.iload_n 2, 1) := by decide +kernel
theorem dX10_acrossAt_7 : decode cX10_acrossAt 7 = .ok (.iadd, 1) := by decide +kernel
theorem dX10_acrossAt_8 : decode cX10_acrossAt 8 = .ok (.ireturn, 1) := by decide +kernel
theorem dX10_standsAt_0 : decode cX10_standsAt 0 = .ok (.aload_n 0, 1) := by decide +kernel
theorem dX10_standsAt_1 : decode cX10_standsAt 1 = .ok (.getfield 103, 3) := by decide +kernel
theorem dX10_standsAt_4 : decode cX10_standsAt 4 = .ok (.aload_n 0, 1) := by decide +kernel
theorem dX10_standsAt_5 : decode cX10_standsAt 5 = .ok (.getfield 106, 3) := by decide +kernel
theorem dX10_standsAt_8 : decode cX10_standsAt 8 = .ok (.iconst 1, 1) := by decide +kernel
theorem dX10_standsAt_9 : decode cX10_standsAt 9 = .ok (.iadd, 1) := by decide +kernel
theorem dX10_standsAt_10 : decode cX10_standsAt 10 = .ok (.imul, 1) := by decide +kernel
theorem dX10_standsAt_11 : decode cX10_standsAt 11 = .ok (.iload_n 1, 1) := by decide +kernel
theorem dX10_standsAt_12 : decode cX10_standsAt 12 = .ok (.aload_n 0, 1) := by decide +kernel
theorem dX10_standsAt_13 : decode cX10_standsAt 13 = .ok (.getfield 103, 3) := by decide +kernel
theorem dX10_standsAt_16 : decode cX10_standsAt 16 = .ok (.iconst 1, 1) := by decide +kernel
theorem dX10_standsAt_17 : decode cX10_standsAt 17 = .ok (.iadd, 1) := by decide +kernel
theorem dX10_standsAt_18 : decode cX10_standsAt 18 = .ok (.imul, 1) := by decide +kernel
theorem dX10_standsAt_19 : decode cX10_standsAt 19 = .ok (.iadd, 1) := by decide +kernel
theorem dX10_standsAt_20 : decode cX10_standsAt 20 = .ok (.iload_n 2, 1) := by decide +kernel
theorem dX10_standsAt_21 : decode cX10_standsAt 21 = .ok (.iadd, 1) := by decide +kernel
theorem dX10_standsAt_22 : decode cX10_standsAt 22 = .ok (.ireturn, 1) := by decide +kernel
theorem dX10_rimOf_0 : decode cX10_rimOf 0 = .ok (.iconst 0, 1) := by decide +kernel
theorem dX10_rimOf_1 : decode cX10_rimOf 1 = .ok (.istore 4, 2) := by decide +kernel
theorem dX10_rimOf_3 : decode cX10_rimOf 3 = .ok (.iconst 0, 1) := by decide +kernel
theorem dX10_rimOf_4 : decode cX10_rimOf 4 = .ok (.istore 5, 2) := by decide +kernel
theorem dX10_rimOf_6 : decode cX10_rimOf 6 = .ok (.iload 5, 2) := by decide +kernel
theorem dX10_rimOf_8 : decode cX10_rimOf 8 = .ok (.iload_n 1, 1) := by decide +kernel
theorem dX10_rimOf_9 : decode cX10_rimOf 9 = .ok (.if_icmp .ge 69, 3) := by decide +kernel
theorem dX10_rimOf_12 : decode cX10_rimOf 12 = .ok (.iload 4, 2) := by decide +kernel
theorem dX10_rimOf_14 : decode cX10_rimOf 14 = .ok (.iconst 1, 1) := by decide +kernel
theorem dX10_rimOf_15 : decode cX10_rimOf 15 = .ok (.aload_n 0, 1) := by decide +kernel
theorem dX10_rimOf_16 : decode cX10_rimOf 16 = .ok (.iload_n 2, 1) := by decide +kernel
theorem dX10_rimOf_17 : decode cX10_rimOf 17 = .ok (.iload_n 3, 1) := by decide +kernel
theorem dX10_rimOf_18 : decode cX10_rimOf 18 = .ok (.iload 5, 2) := by decide +kernel
theorem dX10_rimOf_20 : decode cX10_rimOf 20 = .ok (.iadd, 1) := by decide +kernel
theorem dX10_rimOf_21 : decode cX10_rimOf 21 = .ok (.invokevirtual 109, 3) := by decide +kernel
theorem dX10_rimOf_24 : decode cX10_rimOf 24 = .ok (.ishl, 1) := by decide +kernel
theorem dX10_rimOf_25 : decode cX10_rimOf 25 = .ok (.iconst 1, 1) := by decide +kernel
theorem dX10_rimOf_26 : decode cX10_rimOf 26 = .ok (.aload_n 0, 1) := by decide +kernel
theorem dX10_rimOf_27 : decode cX10_rimOf 27 = .ok (.iload_n 2, 1) := by decide +kernel
theorem dX10_rimOf_28 : decode cX10_rimOf 28 = .ok (.iload_n 1, 1) := by decide +kernel
theorem dX10_rimOf_29 : decode cX10_rimOf 29 = .ok (.iadd, 1) := by decide +kernel
theorem dX10_rimOf_30 : decode cX10_rimOf 30 = .ok (.iload_n 3, 1) := by decide +kernel
theorem dX10_rimOf_31 : decode cX10_rimOf 31 = .ok (.iload 5, 2) := by decide +kernel
theorem dX10_rimOf_33 : decode cX10_rimOf 33 = .ok (.iadd, 1) := by decide +kernel
theorem dX10_rimOf_34 : decode cX10_rimOf 34 = .ok (.invokevirtual 109, 3) := by decide +kernel
theorem dX10_rimOf_37 : decode cX10_rimOf 37 = .ok (.ishl, 1) := by decide +kernel
theorem dX10_rimOf_38 : decode cX10_rimOf 38 = .ok (.ior, 1) := by decide +kernel
theorem dX10_rimOf_39 : decode cX10_rimOf 39 = .ok (.ior, 1) := by decide +kernel
theorem dX10_rimOf_40 : decode cX10_rimOf 40 = .ok (.istore 4, 2) := by decide +kernel
theorem dX10_rimOf_42 : decode cX10_rimOf 42 = .ok (.iload 4, 2) := by decide +kernel
theorem dX10_rimOf_44 : decode cX10_rimOf 44 = .ok (.iconst 1, 1) := by decide +kernel
theorem dX10_rimOf_45 : decode cX10_rimOf 45 = .ok (.aload_n 0, 1) := by decide +kernel
theorem dX10_rimOf_46 : decode cX10_rimOf 46 = .ok (.iload_n 2, 1) := by decide +kernel
theorem dX10_rimOf_47 : decode cX10_rimOf 47 = .ok (.iload 5, 2) := by decide +kernel
theorem dX10_rimOf_49 : decode cX10_rimOf 49 = .ok (.iadd, 1) := by decide +kernel
theorem dX10_rimOf_50 : decode cX10_rimOf 50 = .ok (.iload_n 3, 1) := by decide +kernel
theorem dX10_rimOf_51 : decode cX10_rimOf 51 = .ok (.invokevirtual 113, 3) := by decide +kernel
theorem dX10_rimOf_54 : decode cX10_rimOf 54 = .ok (.ishl, 1) := by decide +kernel
theorem dX10_rimOf_55 : decode cX10_rimOf 55 = .ok (.iconst 1, 1) := by decide +kernel
theorem dX10_rimOf_56 : decode cX10_rimOf 56 = .ok (.aload_n 0, 1) := by decide +kernel
theorem dX10_rimOf_57 : decode cX10_rimOf 57 = .ok (.iload_n 2, 1) := by decide +kernel
theorem dX10_rimOf_58 : decode cX10_rimOf 58 = .ok (.iload 5, 2) := by decide +kernel
theorem dX10_rimOf_60 : decode cX10_rimOf 60 = .ok (.iadd, 1) := by decide +kernel
theorem dX10_rimOf_61 : decode cX10_rimOf 61 = .ok (.iload_n 3, 1) := by decide +kernel
theorem dX10_rimOf_62 : decode cX10_rimOf 62 = .ok (.iload_n 1, 1) := by decide +kernel
theorem dX10_rimOf_63 : decode cX10_rimOf 63 = .ok (.iadd, 1) := by decide +kernel
theorem dX10_rimOf_64 : decode cX10_rimOf 64 = .ok (.invokevirtual 113, 3) := by decide +kernel
theorem dX10_rimOf_67 : decode cX10_rimOf 67 = .ok (.ishl, 1) := by decide +kernel
theorem dX10_rimOf_68 : decode cX10_rimOf 68 = .ok (.ior, 1) := by decide +kernel
theorem dX10_rimOf_69 : decode cX10_rimOf 69 = .ok (.ior, 1) := by decide +kernel
theorem dX10_rimOf_70 : decode cX10_rimOf 70 = .ok (.istore 4, 2) := by decide +kernel
theorem dX10_rimOf_72 : decode cX10_rimOf 72 = .ok (.iinc 5 1, 3) := by decide +kernel
theorem dX10_rimOf_75 : decode cX10_rimOf 75 = .ok (.goto (-69), 3) := by decide +kernel
theorem dX10_rimOf_78 : decode cX10_rimOf 78 = .ok (.iload 4, 2) := by decide +kernel
theorem dX10_rimOf_80 : decode cX10_rimOf 80 = .ok (.ireturn, 1) := by decide +kernel
theorem dX10_findSquares_0 : decode cX10_findSquares 0 = .ok (.aload_n 0, 1) := by decide +kernel
theorem dX10_findSquares_1 : decode cX10_findSquares 1 = .ok (.iconst 0, 1) := by decide +kernel
theorem dX10_findSquares_2 : decode cX10_findSquares 2 = .ok (.putfield 116, 3) := by decide +kernel
theorem dX10_findSquares_5 : decode cX10_findSquares 5 = .ok (.iconst 1, 1) := by decide +kernel
theorem dX10_findSquares_6 : decode cX10_findSquares 6 = .ok (.istore_n 1, 1) := by decide +kernel
theorem dX10_findSquares_7 : decode cX10_findSquares 7 = .ok (.iload_n 1, 1) := by decide +kernel
theorem dX10_findSquares_8 : decode cX10_findSquares 8 = .ok (.iconst 3, 1) := by decide +kernel
theorem dX10_findSquares_9 : decode cX10_findSquares 9 = .ok (.if_icmp .gt 101, 3) := by decide +kernel
theorem dX10_findSquares_12 : decode cX10_findSquares 12 = .ok (.iconst 0, 1) := by decide +kernel
theorem dX10_findSquares_13 : decode cX10_findSquares 13 = .ok (.istore_n 2, 1) := by decide +kernel
theorem dX10_findSquares_14 : decode cX10_findSquares 14 = .ok (.iload_n 2, 1) := by decide +kernel
theorem dX10_findSquares_15 : decode cX10_findSquares 15 = .ok (.iload_n 1, 1) := by decide +kernel
theorem dX10_findSquares_16 : decode cX10_findSquares 16 = .ok (.iadd, 1) := by decide +kernel
theorem dX10_findSquares_17 : decode cX10_findSquares 17 = .ok (.aload_n 0, 1) := by decide +kernel
theorem dX10_findSquares_18 : decode cX10_findSquares 18 = .ok (.getfield 106, 3) := by decide +kernel
theorem dX10_findSquares_21 : decode cX10_findSquares 21 = .ok (.if_icmp .gt 83, 3) := by decide +kernel
theorem dX10_findSquares_24 : decode cX10_findSquares 24 = .ok (.iconst 0, 1) := by decide +kernel
theorem dX10_findSquares_25 : decode cX10_findSquares 25 = .ok (.istore_n 3, 1) := by decide +kernel
theorem dX10_findSquares_26 : decode cX10_findSquares 26 = .ok (.iload_n 3, 1) := by decide +kernel
theorem dX10_findSquares_27 : decode cX10_findSquares 27 = .ok (.iload_n 1, 1) := by decide +kernel
theorem dX10_findSquares_28 : decode cX10_findSquares 28 = .ok (.iadd, 1) := by decide +kernel
theorem dX10_findSquares_29 : decode cX10_findSquares 29 = .ok (.aload_n 0, 1) := by decide +kernel
theorem dX10_findSquares_30 : decode cX10_findSquares 30 = .ok (.getfield 103, 3) := by decide +kernel
theorem dX10_findSquares_33 : decode cX10_findSquares 33 = .ok (.if_icmp .gt 65, 3) := by decide +kernel
theorem dX10_findSquares_36 : decode cX10_findSquares 36 = .ok (.aload_n 0, 1) := by decide +kernel
theorem dX10_findSquares_37 : decode cX10_findSquares 37 = .ok (.getfield 17, 3) := by decide +kernel
theorem dX10_findSquares_40 : decode cX10_findSquares 40 = .ok (.aload_n 0, 1) := by decide +kernel
theorem dX10_findSquares_41 : decode cX10_findSquares 41 = .ok (.getfield 116, 3) := by decide +kernel
theorem dX10_findSquares_44 : decode cX10_findSquares 44 = .ok (.iload_n 1, 1) := by decide +kernel
theorem dX10_findSquares_45 : decode cX10_findSquares 45 = .ok (.iastore, 1) := by decide +kernel
theorem dX10_findSquares_46 : decode cX10_findSquares 46 = .ok (.aload_n 0, 1) := by decide +kernel
theorem dX10_findSquares_47 : decode cX10_findSquares 47 = .ok (.getfield 20, 3) := by decide +kernel
theorem dX10_findSquares_50 : decode cX10_findSquares 50 = .ok (.aload_n 0, 1) := by decide +kernel
theorem dX10_findSquares_51 : decode cX10_findSquares 51 = .ok (.getfield 116, 3) := by decide +kernel
theorem dX10_findSquares_54 : decode cX10_findSquares 54 = .ok (.iload_n 2, 1) := by decide +kernel
theorem dX10_findSquares_55 : decode cX10_findSquares 55 = .ok (.iastore, 1) := by decide +kernel
theorem dX10_findSquares_56 : decode cX10_findSquares 56 = .ok (.aload_n 0, 1) := by decide +kernel
theorem dX10_findSquares_57 : decode cX10_findSquares 57 = .ok (.getfield 23, 3) := by decide +kernel
theorem dX10_findSquares_60 : decode cX10_findSquares 60 = .ok (.aload_n 0, 1) := by decide +kernel
theorem dX10_findSquares_61 : decode cX10_findSquares 61 = .ok (.getfield 116, 3) := by decide +kernel
theorem dX10_findSquares_64 : decode cX10_findSquares 64 = .ok (.iload_n 3, 1) := by decide +kernel
theorem dX10_findSquares_65 : decode cX10_findSquares 65 = .ok (.iastore, 1) := by decide +kernel
theorem dX10_findSquares_66 : decode cX10_findSquares 66 = .ok (.aload_n 0, 1) := by decide +kernel
theorem dX10_findSquares_67 : decode cX10_findSquares 67 = .ok (.getfield 26, 3) := by decide +kernel
theorem dX10_findSquares_70 : decode cX10_findSquares 70 = .ok (.aload_n 0, 1) := by decide +kernel
theorem dX10_findSquares_71 : decode cX10_findSquares 71 = .ok (.getfield 116, 3) := by decide +kernel
theorem dX10_findSquares_74 : decode cX10_findSquares 74 = .ok (.aload_n 0, 1) := by decide +kernel
theorem dX10_findSquares_75 : decode cX10_findSquares 75 = .ok (.iload_n 1, 1) := by decide +kernel
theorem dX10_findSquares_76 : decode cX10_findSquares 76 = .ok (.iload_n 2, 1) := by decide +kernel
theorem dX10_findSquares_77 : decode cX10_findSquares 77 = .ok (.iload_n 3, 1) := by decide +kernel
theorem dX10_findSquares_78 : decode cX10_findSquares 78 = .ok (.invokevirtual 119, 3) := by decide +kernel
theorem dX10_findSquares_81 : decode cX10_findSquares 81 = .ok (.iastore, 1) := by decide +kernel
theorem dX10_findSquares_82 : decode cX10_findSquares 82 = .ok (.aload_n 0, 1) := by decide +kernel
theorem dX10_findSquares_83 : decode cX10_findSquares 83 = .ok (.dup, 1) := by decide +kernel
theorem dX10_findSquares_84 : decode cX10_findSquares 84 = .ok (.getfield 116, 3) := by decide +kernel
theorem dX10_findSquares_87 : decode cX10_findSquares 87 = .ok (.iconst 1, 1) := by decide +kernel
theorem dX10_findSquares_88 : decode cX10_findSquares 88 = .ok (.iadd, 1) := by decide +kernel
theorem dX10_findSquares_89 : decode cX10_findSquares 89 = .ok (.putfield 116, 3) := by decide +kernel
theorem dX10_findSquares_92 : decode cX10_findSquares 92 = .ok (.iinc 3 1, 3) := by decide +kernel
theorem dX10_findSquares_95 : decode cX10_findSquares 95 = .ok (.goto (-69), 3) := by decide +kernel
theorem dX10_findSquares_98 : decode cX10_findSquares 98 = .ok (.iinc 2 1, 3) := by decide +kernel
theorem dX10_findSquares_101 : decode cX10_findSquares 101 = .ok (.goto (-87), 3) := by decide +kernel
theorem dX10_findSquares_104 : decode cX10_findSquares 104 = .ok (.iinc 1 1, 3) := by decide +kernel
theorem dX10_findSquares_107 : decode cX10_findSquares 107 = .ok (.goto (-100), 3) := by decide +kernel
theorem dX10_findSquares_110 : decode cX10_findSquares 110 = .ok (.return_, 1) := by decide +kernel
theorem dX10_keepDraft_0 : decode cX10_keepDraft 0 = .ok (.aload_n 0, 1) := by decide +kernel
theorem dX10_keepDraft_1 : decode cX10_keepDraft 1 = .ok (.aload_n 0, 1) := by decide +kernel
theorem dX10_keepDraft_2 : decode cX10_keepDraft 2 = .ok (.getfield 83, 3) := by decide +kernel
theorem dX10_keepDraft_5 : decode cX10_keepDraft 5 = .ok (.putfield 103, 3) := by decide +kernel
theorem dX10_keepDraft_8 : decode cX10_keepDraft 8 = .ok (.aload_n 0, 1) := by decide +kernel
theorem dX10_keepDraft_9 : decode cX10_keepDraft 9 = .ok (.aload_n 0, 1) := by decide +kernel
theorem dX10_keepDraft_10 : decode cX10_keepDraft 10 = .ok (.getfield 87, 3) := by decide +kernel
theorem dX10_keepDraft_13 : decode cX10_keepDraft 13 = .ok (.putfield 106, 3) := by decide +kernel
theorem dX10_keepDraft_16 : decode cX10_keepDraft 16 = .ok (.aload_n 0, 1) := by decide +kernel
theorem dX10_keepDraft_17 : decode cX10_keepDraft 17 = .ok (.aload_n 0, 1) := by decide +kernel
theorem dX10_keepDraft_18 : decode cX10_keepDraft 18 = .ok (.getfield 103, 3) := by decide +kernel
theorem dX10_keepDraft_21 : decode cX10_keepDraft 21 = .ok (.aload_n 0, 1) := by decide +kernel
theorem dX10_keepDraft_22 : decode cX10_keepDraft 22 = .ok (.getfield 106, 3) := by decide +kernel
theorem dX10_keepDraft_25 : decode cX10_keepDraft 25 = .ok (.iconst 1, 1) := by decide +kernel
theorem dX10_keepDraft_26 : decode cX10_keepDraft 26 = .ok (.iadd, 1) := by decide +kernel
theorem dX10_keepDraft_27 : decode cX10_keepDraft 27 = .ok (.imul, 1) := by decide +kernel
theorem dX10_keepDraft_28 : decode cX10_keepDraft 28 = .ok (.aload_n 0, 1) := by decide +kernel
theorem dX10_keepDraft_29 : decode cX10_keepDraft 29 = .ok (.getfield 106, 3) := by decide +kernel
theorem dX10_keepDraft_32 : decode cX10_keepDraft 32 = .ok (.aload_n 0, 1) := by decide +kernel
theorem dX10_keepDraft_33 : decode cX10_keepDraft 33 = .ok (.getfield 103, 3) := by decide +kernel
theorem dX10_keepDraft_36 : decode cX10_keepDraft 36 = .ok (.iconst 1, 1) := by decide +kernel
theorem dX10_keepDraft_37 : decode cX10_keepDraft 37 = .ok (.iadd, 1) := by decide +kernel
theorem dX10_keepDraft_38 : decode cX10_keepDraft 38 = .ok (.imul, 1) := by decide +kernel
theorem dX10_keepDraft_39 : decode cX10_keepDraft 39 = .ok (.iadd, 1) := by decide +kernel
theorem dX10_keepDraft_40 : decode cX10_keepDraft 40 = .ok (.putfield 123, 3) := by decide +kernel
theorem dX10_keepDraft_43 : decode cX10_keepDraft 43 = .ok (.aload_n 0, 1) := by decide +kernel
theorem dX10_keepDraft_44 : decode cX10_keepDraft 44 = .ok (.invokevirtual 126, 3) := by decide +kernel
theorem dX10_keepDraft_47 : decode cX10_keepDraft 47 = .ok (.iconst 0, 1) := by decide +kernel
theorem dX10_keepDraft_48 : decode cX10_keepDraft 48 = .ok (.istore_n 1, 1) := by decide +kernel
theorem dX10_keepDraft_49 : decode cX10_keepDraft 49 = .ok (.iconst 0, 1) := by decide +kernel
theorem dX10_keepDraft_50 : decode cX10_keepDraft 50 = .ok (.istore_n 2, 1) := by decide +kernel
theorem dX10_keepDraft_51 : decode cX10_keepDraft 51 = .ok (.iload_n 2, 1) := by decide +kernel
theorem dX10_keepDraft_52 : decode cX10_keepDraft 52 = .ok (.aload_n 0, 1) := by decide +kernel
theorem dX10_keepDraft_53 : decode cX10_keepDraft 53 = .ok (.getfield 123, 3) := by decide +kernel
theorem dX10_keepDraft_56 : decode cX10_keepDraft 56 = .ok (.if_icmp .ge 15, 3) := by decide +kernel
theorem dX10_keepDraft_59 : decode cX10_keepDraft 59 = .ok (.iload_n 1, 1) := by decide +kernel
theorem dX10_keepDraft_60 : decode cX10_keepDraft 60 = .ok (.iconst 1, 1) := by decide +kernel
theorem dX10_keepDraft_61 : decode cX10_keepDraft 61 = .ok (.iload_n 2, 1) := by decide +kernel
theorem dX10_keepDraft_62 : decode cX10_keepDraft 62 = .ok (.ishl, 1) := by decide +kernel
theorem dX10_keepDraft_63 : decode cX10_keepDraft 63 = .ok (.ior, 1) := by decide +kernel
theorem dX10_keepDraft_64 : decode cX10_keepDraft 64 = .ok (.istore_n 1, 1) := by decide +kernel
theorem dX10_keepDraft_65 : decode cX10_keepDraft 65 = .ok (.iinc 2 1, 3) := by decide +kernel
theorem dX10_keepDraft_68 : decode cX10_keepDraft 68 = .ok (.goto (-17), 3) := by decide +kernel
theorem dX10_keepDraft_71 : decode cX10_keepDraft 71 = .ok (.aload_n 0, 1) := by decide +kernel
theorem dX10_keepDraft_72 : decode cX10_keepDraft 72 = .ok (.getfield 7, 3) := by decide +kernel
theorem dX10_keepDraft_75 : decode cX10_keepDraft 75 = .ok (.iconst 0, 1) := by decide +kernel
theorem dX10_keepDraft_76 : decode cX10_keepDraft 76 = .ok (.iload_n 1, 1) := by decide +kernel
theorem dX10_keepDraft_77 : decode cX10_keepDraft 77 = .ok (.aload_n 0, 1) := by decide +kernel
theorem dX10_keepDraft_78 : decode cX10_keepDraft 78 = .ok (.getfield 90, 3) := by decide +kernel
theorem dX10_keepDraft_81 : decode cX10_keepDraft 81 = .ok (.iconst (-1), 1) := by decide +kernel
theorem dX10_keepDraft_82 : decode cX10_keepDraft 82 = .ok (.ixor, 1) := by decide +kernel
theorem dX10_keepDraft_83 : decode cX10_keepDraft 83 = .ok (.iand, 1) := by decide +kernel
theorem dX10_keepDraft_84 : decode cX10_keepDraft 84 = .ok (.iastore, 1) := by decide +kernel
theorem dX10_keepDraft_85 : decode cX10_keepDraft 85 = .ok (.iconst 0, 1) := by decide +kernel
theorem dX10_keepDraft_86 : decode cX10_keepDraft 86 = .ok (.istore_n 2, 1) := by decide +kernel
theorem dX10_keepDraft_87 : decode cX10_keepDraft 87 = .ok (.iload_n 2, 1) := by decide +kernel
theorem dX10_keepDraft_88 : decode cX10_keepDraft 88 = .ok (.bipush 31, 2) := by decide +kernel
theorem dX10_keepDraft_90 : decode cX10_keepDraft 90 = .ok (.if_icmp .ge 36, 3) := by decide +kernel
theorem dX10_keepDraft_93 : decode cX10_keepDraft 93 = .ok (.aload_n 0, 1) := by decide +kernel
theorem dX10_keepDraft_94 : decode cX10_keepDraft 94 = .ok (.getfield 7, 3) := by decide +kernel
theorem dX10_keepDraft_97 : decode cX10_keepDraft 97 = .ok (.iconst 1, 1) := by decide +kernel
theorem dX10_keepDraft_98 : decode cX10_keepDraft 98 = .ok (.iload_n 2, 1) := by decide +kernel
theorem dX10_keepDraft_99 : decode cX10_keepDraft 99 = .ok (.iadd, 1) := by decide +kernel
theorem dX10_keepDraft_100 : decode cX10_keepDraft 100 = .ok (.aload_n 0, 1) := by decide +kernel
theorem dX10_keepDraft_101 : decode cX10_keepDraft 101 = .ok (.getfield 29, 3) := by decide +kernel
theorem dX10_keepDraft_104 : decode cX10_keepDraft 104 = .ok (.iload_n 2, 1) := by decide +kernel
theorem dX10_keepDraft_105 : decode cX10_keepDraft 105 = .ok (.iaload, 1) := by decide +kernel
theorem dX10_keepDraft_106 : decode cX10_keepDraft 106 = .ok (.ifCond .ne 7, 3) := by decide +kernel
theorem dX10_keepDraft_109 : decode cX10_keepDraft 109 = .ok (.iconst 1, 1) := by decide +kernel
theorem dX10_keepDraft_110 : decode cX10_keepDraft 110 = .ok (.goto 9, 3) := by decide +kernel
theorem dX10_keepDraft_113 : decode cX10_keepDraft 113 = .ok (.aload_n 0, 1) := by decide +kernel
theorem dX10_keepDraft_114 : decode cX10_keepDraft 114 = .ok (.getfield 29, 3) := by decide +kernel
theorem dX10_keepDraft_117 : decode cX10_keepDraft 117 = .ok (.iload_n 2, 1) := by decide +kernel
theorem dX10_keepDraft_118 : decode cX10_keepDraft 118 = .ok (.iaload, 1) := by decide +kernel
theorem dX10_keepDraft_119 : decode cX10_keepDraft 119 = .ok (.iastore, 1) := by decide +kernel
theorem dX10_keepDraft_120 : decode cX10_keepDraft 120 = .ok (.iinc 2 1, 3) := by decide +kernel
theorem dX10_keepDraft_123 : decode cX10_keepDraft 123 = .ok (.goto (-36), 3) := by decide +kernel
theorem dX10_keepDraft_126 : decode cX10_keepDraft 126 = .ok (.aload_n 0, 1) := by decide +kernel
theorem dX10_keepDraft_127 : decode cX10_keepDraft 127 = .ok (.getfield 7, 3) := by decide +kernel
theorem dX10_keepDraft_130 : decode cX10_keepDraft 130 = .ok (.bipush 32, 2) := by decide +kernel
theorem dX10_keepDraft_132 : decode cX10_keepDraft 132 = .ok (.aload_n 0, 1) := by decide +kernel
theorem dX10_keepDraft_133 : decode cX10_keepDraft 133 = .ok (.getfield 93, 3) := by decide +kernel
theorem dX10_keepDraft_136 : decode cX10_keepDraft 136 = .ok (.ifCond .ne 8, 3) := by decide +kernel
theorem dX10_keepDraft_139 : decode cX10_keepDraft 139 = .ok (.bipush 14, 2) := by decide +kernel
theorem dX10_keepDraft_141 : decode cX10_keepDraft 141 = .ok (.goto 7, 3) := by decide +kernel
theorem dX10_keepDraft_144 : decode cX10_keepDraft 144 = .ok (.aload_n 0, 1) := by decide +kernel
theorem dX10_keepDraft_145 : decode cX10_keepDraft 145 = .ok (.getfield 93, 3) := by decide +kernel
theorem dX10_keepDraft_148 : decode cX10_keepDraft 148 = .ok (.iastore, 1) := by decide +kernel
theorem dX10_keepDraft_149 : decode cX10_keepDraft 149 = .ok (.iconst 1, 1) := by decide +kernel
theorem dX10_keepDraft_150 : decode cX10_keepDraft 150 = .ok (.istore_n 2, 1) := by decide +kernel
theorem dX10_keepDraft_151 : decode cX10_keepDraft 151 = .ok (.iload_n 2, 1) := by decide +kernel
theorem dX10_keepDraft_152 : decode cX10_keepDraft 152 = .ok (.iconst 3, 1) := by decide +kernel
theorem dX10_keepDraft_153 : decode cX10_keepDraft 153 = .ok (.if_icmp .gt 24, 3) := by decide +kernel
theorem dX10_keepDraft_156 : decode cX10_keepDraft 156 = .ok (.aload_n 0, 1) := by decide +kernel
theorem dX10_keepDraft_157 : decode cX10_keepDraft 157 = .ok (.getfield 7, 3) := by decide +kernel
theorem dX10_keepDraft_160 : decode cX10_keepDraft 160 = .ok (.bipush 32, 2) := by decide +kernel
theorem dX10_keepDraft_162 : decode cX10_keepDraft 162 = .ok (.iload_n 2, 1) := by decide +kernel
theorem dX10_keepDraft_163 : decode cX10_keepDraft 163 = .ok (.iadd, 1) := by decide +kernel
theorem dX10_keepDraft_164 : decode cX10_keepDraft 164 = .ok (.aload_n 0, 1) := by decide +kernel
theorem dX10_keepDraft_165 : decode cX10_keepDraft 165 = .ok (.getfield 32, 3) := by decide +kernel
theorem dX10_keepDraft_168 : decode cX10_keepDraft 168 = .ok (.iload_n 2, 1) := by decide +kernel
theorem dX10_keepDraft_169 : decode cX10_keepDraft 169 = .ok (.iaload, 1) := by decide +kernel
theorem dX10_keepDraft_170 : decode cX10_keepDraft 170 = .ok (.iastore, 1) := by decide +kernel
theorem dX10_keepDraft_171 : decode cX10_keepDraft 171 = .ok (.iinc 2 1, 3) := by decide +kernel
theorem dX10_keepDraft_174 : decode cX10_keepDraft 174 = .ok (.goto (-23), 3) := by decide +kernel
theorem dX10_keepDraft_177 : decode cX10_keepDraft 177 = .ok (.aload_n 0, 1) := by decide +kernel
theorem dX10_keepDraft_178 : decode cX10_keepDraft 178 = .ok (.getfield 13, 3) := by decide +kernel
theorem dX10_keepDraft_181 : decode cX10_keepDraft 181 = .ok (.iconst 0, 1) := by decide +kernel
theorem dX10_keepDraft_182 : decode cX10_keepDraft 182 = .ok (.iconst 0, 1) := by decide +kernel
theorem dX10_keepDraft_183 : decode cX10_keepDraft 183 = .ok (.bastore, 1) := by decide +kernel
theorem dX10_keepDraft_184 : decode cX10_keepDraft 184 = .ok (.aload_n 0, 1) := by decide +kernel
theorem dX10_keepDraft_185 : decode cX10_keepDraft 185 = .ok (.getfield 13, 3) := by decide +kernel
theorem dX10_keepDraft_188 : decode cX10_keepDraft 188 = .ok (.iconst 1, 1) := by decide +kernel
theorem dX10_keepDraft_189 : decode cX10_keepDraft 189 = .ok (.iconst 0, 1) := by decide +kernel
theorem dX10_keepDraft_190 : decode cX10_keepDraft 190 = .ok (.bastore, 1) := by decide +kernel
theorem dX10_keepDraft_191 : decode cX10_keepDraft 191 = .ok (.return_, 1) := by decide +kernel
theorem dX10_feed_0 : decode cX10_feed 0 = .ok (.aload_n 0, 1) := by decide +kernel
theorem dX10_feed_1 : decode cX10_feed 1 = .ok (.getfield 129, 3) := by decide +kernel
theorem dX10_feed_4 : decode cX10_feed 4 = .ok (.bipush 8, 2) := by decide +kernel
theorem dX10_feed_6 : decode cX10_feed 6 = .ok (.iadd, 1) := by decide +kernel
theorem dX10_feed_7 : decode cX10_feed 7 = .ok (.sipush 320, 3) := by decide +kernel
theorem dX10_feed_10 : decode cX10_feed 10 = .ok (.if_icmp .le 6, 3) := by decide +kernel
theorem dX10_feed_13 : decode cX10_feed 13 = .ok (.bipush (-3), 2) := by decide +kernel
theorem dX10_feed_15 : decode cX10_feed 15 = .ok (.ireturn, 1) := by decide +kernel
theorem dX10_feed_16 : decode cX10_feed 16 = .ok (.bipush 56, 2) := by decide +kernel
theorem dX10_feed_18 : decode cX10_feed 18 = .ok (.istore_n 3, 1) := by decide +kernel
theorem dX10_feed_19 : decode cX10_feed 19 = .ok (.iload_n 3, 1) := by decide +kernel
theorem dX10_feed_20 : decode cX10_feed 20 = .ok (.ifCond .lt 36, 3) := by decide +kernel
theorem dX10_feed_23 : decode cX10_feed 23 = .ok (.aload_n 0, 1) := by decide +kernel
theorem dX10_feed_24 : decode cX10_feed 24 = .ok (.getfield 35, 3) := by decide +kernel
theorem dX10_feed_27 : decode cX10_feed 27 = .ok (.aload_n 0, 1) := by decide +kernel
theorem dX10_feed_28 : decode cX10_feed 28 = .ok (.getfield 129, 3) := by decide +kernel
theorem dX10_feed_31 : decode cX10_feed 31 = .ok (.lload_n 1, 1) := by decide +kernel
theorem dX10_feed_32 : decode cX10_feed 32 = .ok (.iload_n 3, 1) := by decide +kernel
theorem dX10_feed_33 : decode cX10_feed 33 = .ok (.lshr, 1) := by decide +kernel
theorem dX10_feed_34 : decode cX10_feed 34 = .ok (.ldc2_w 132, 3) := by decide +kernel
theorem dX10_feed_37 : decode cX10_feed 37 = .ok (.land, 1) := by decide +kernel
theorem dX10_feed_38 : decode cX10_feed 38 = .ok (.l2i, 1) := by decide +kernel
theorem dX10_feed_39 : decode cX10_feed 39 = .ok (.iastore, 1) := by decide +kernel
theorem dX10_feed_40 : decode cX10_feed 40 = .ok (.aload_n 0, 1) := by decide +kernel
theorem dX10_feed_41 : decode cX10_feed 41 = .ok (.dup, 1) := by decide +kernel
theorem dX10_feed_42 : decode cX10_feed 42 = .ok (.getfield 129, 3) := by decide +kernel
theorem dX10_feed_45 : decode cX10_feed 45 = .ok (.iconst 1, 1) := by decide +kernel
theorem dX10_feed_46 : decode cX10_feed 46 = .ok (.iadd, 1) := by decide +kernel
theorem dX10_feed_47 : decode cX10_feed 47 = .ok (.putfield 129, 3) := by decide +kernel
theorem dX10_feed_50 : decode cX10_feed 50 = .ok (.iinc 3 (-8), 3) := by decide +kernel
theorem dX10_feed_53 : decode cX10_feed 53 = .ok (.goto (-34), 3) := by decide +kernel
theorem dX10_feed_56 : decode cX10_feed 56 = .ok (.aload_n 0, 1) := by decide +kernel
theorem dX10_feed_57 : decode cX10_feed 57 = .ok (.getfield 129, 3) := by decide +kernel
theorem dX10_feed_60 : decode cX10_feed 60 = .ok (.ireturn, 1) := by decide +kernel
theorem dX10_end_0 : decode cX10_end 0 = .ok (.iload_n 1, 1) := by decide +kernel
theorem dX10_end_1 : decode cX10_end 1 = .ok (.i2l, 1) := by decide +kernel
theorem dX10_end_2 : decode cX10_end 2 = .ok (.lconst 0, 1) := by decide +kernel
theorem dX10_end_3 : decode cX10_end 3 = .ok (.aload_n 0, 1) := by decide +kernel
theorem dX10_end_4 : decode cX10_end 4 = .ok (.getfield 129, 3) := by decide +kernel
theorem dX10_end_7 : decode cX10_end 7 = .ok (.i2l, 1) := by decide +kernel
theorem dX10_end_8 : decode cX10_end 8 = .ok (.invokestatic 134, 3) := by decide +kernel
theorem dX10_end_11 : decode cX10_end 11 = .ok (.ifCond .ne 5, 3) := by decide +kernel
theorem dX10_end_14 : decode cX10_end 14 = .ok (.iconst (-1), 1) := by decide +kernel
theorem dX10_end_15 : decode cX10_end 15 = .ok (.ireturn, 1) := by decide +kernel
theorem dX10_end_16 : decode cX10_end 16 = .ok (.aload_n 0, 1) := by decide +kernel
theorem dX10_end_17 : decode cX10_end 17 = .ok (.getfield 129, 3) := by decide +kernel
theorem dX10_end_20 : decode cX10_end 20 = .ok (.istore_n 2, 1) := by decide +kernel
theorem dX10_end_21 : decode cX10_end 21 = .ok (.aload_n 0, 1) := by decide +kernel
theorem dX10_end_22 : decode cX10_end 22 = .ok (.iload_n 1, 1) := by decide +kernel
theorem dX10_end_23 : decode cX10_end 23 = .ok (.putfield 129, 3) := by decide +kernel
theorem dX10_end_26 : decode cX10_end 26 = .ok (.iload_n 2, 1) := by decide +kernel
theorem dX10_end_27 : decode cX10_end 27 = .ok (.ireturn, 1) := by decide +kernel
theorem dX10_needs_0 : decode cX10_needs 0 = .ok (.iload_n 1, 1) := by decide +kernel
theorem dX10_needs_1 : decode cX10_needs 1 = .ok (.ifCond .ne 23, 3) := by decide +kernel
theorem dX10_needs_4 : decode cX10_needs 4 = .ok (.aload_n 0, 1) := by decide +kernel
theorem dX10_needs_5 : decode cX10_needs 5 = .ok (.getfield 138, 3) := by decide +kernel
theorem dX10_needs_8 : decode cX10_needs 8 = .ok (.ifCond .ne 16, 3) := by decide +kernel
theorem dX10_needs_11 : decode cX10_needs 11 = .ok (.aload_n 0, 1) := by decide +kernel
theorem dX10_needs_12 : decode cX10_needs 12 = .ok (.iload_n 2, 1) := by decide +kernel
theorem dX10_needs_13 : decode cX10_needs 13 = .ok (.putfield 138, 3) := by decide +kernel
theorem dX10_needs_16 : decode cX10_needs 16 = .ok (.aload_n 0, 1) := by decide +kernel
theorem dX10_needs_17 : decode cX10_needs 17 = .ok (.aload_n 0, 1) := by decide +kernel
theorem dX10_needs_18 : decode cX10_needs 18 = .ok (.getfield 141, 3) := by decide +kernel
theorem dX10_needs_21 : decode cX10_needs 21 = .ok (.putfield 144, 3) := by decide +kernel
theorem dX10_needs_24 : decode cX10_needs 24 = .ok (.return_, 1) := by decide +kernel
theorem dX10_look_0 : decode cX10_look 0 = .ok (.iload_n 1, 1) := by decide +kernel
theorem dX10_look_1 : decode cX10_look 1 = .ok (.aload_n 0, 1) := by decide +kernel
theorem dX10_look_2 : decode cX10_look 2 = .ok (.getfield 129, 3) := by decide +kernel
theorem dX10_look_5 : decode cX10_look 5 = .ok (.if_icmp .ge 12, 3) := by decide +kernel
theorem dX10_look_8 : decode cX10_look 8 = .ok (.aload_n 0, 1) := by decide +kernel
theorem dX10_look_9 : decode cX10_look 9 = .ok (.getfield 35, 3) := by decide +kernel
theorem dX10_look_12 : decode cX10_look 12 = .ok (.iload_n 1, 1) := by decide +kernel
theorem dX10_look_13 : decode cX10_look 13 = .ok (.iaload, 1) := by decide +kernel
theorem dX10_look_14 : decode cX10_look 14 = .ok (.goto 4, 3) := by decide +kernel
theorem dX10_look_17 : decode cX10_look 17 = .ok (.iconst (-1), 1) := by decide +kernel
theorem dX10_look_18 : decode cX10_look 18 = .ok (.ireturn, 1) := by decide +kernel
theorem dX10_is_0 : decode cX10_is 0 = .ok (.aload_n 0, 1) := by decide +kernel
theorem dX10_is_1 : decode cX10_is 1 = .ok (.getfield 147, 3) := by decide +kernel
theorem dX10_is_4 : decode cX10_is 4 = .ok (.aload_n 0, 1) := by decide +kernel
theorem dX10_is_5 : decode cX10_is 5 = .ok (.getfield 141, 3) := by decide +kernel
theorem dX10_is_8 : decode cX10_is 8 = .ok (.isub, 1) := by decide +kernel
theorem dX10_is_9 : decode cX10_is 9 = .ok (.iconst 4, 1) := by decide +kernel
theorem dX10_is_10 : decode cX10_is 10 = .ok (.if_icmp .ne 62, 3) := by decide +kernel
theorem dX10_is_13 : decode cX10_is 13 = .ok (.aload_n 0, 1) := by decide +kernel
theorem dX10_is_14 : decode cX10_is 14 = .ok (.aload_n 0, 1) := by decide +kernel
theorem dX10_is_15 : decode cX10_is 15 = .ok (.getfield 141, 3) := by decide +kernel
theorem dX10_is_18 : decode cX10_is 18 = .ok (.invokevirtual 150, 3) := by decide +kernel
theorem dX10_is_21 : decode cX10_is 21 = .ok (.iload_n 1, 1) := by decide +kernel
theorem dX10_is_22 : decode cX10_is 22 = .ok (.if_icmp .ne 50, 3) := by decide +kernel
theorem dX10_is_25 : decode cX10_is 25 = .ok (.aload_n 0, 1) := by decide +kernel
theorem dX10_is_26 : decode cX10_is 26 = .ok (.aload_n 0, 1) := by decide +kernel
theorem dX10_is_27 : decode cX10_is 27 = .ok (.getfield 141, 3) := by decide +kernel
theorem dX10_is_30 : decode cX10_is 30 = .ok (.iconst 1, 1) := by decide +kernel
theorem dX10_is_31 : decode cX10_is 31 = .ok (.iadd, 1) := by decide +kernel
theorem dX10_is_32 : decode cX10_is 32 = .ok (.invokevirtual 150, 3) := by decide +kernel
theorem dX10_is_35 : decode cX10_is 35 = .ok (.iload_n 2, 1) := by decide +kernel
theorem dX10_is_36 : decode cX10_is 36 = .ok (.if_icmp .ne 36, 3) := by decide +kernel
theorem dX10_is_39 : decode cX10_is 39 = .ok (.aload_n 0, 1) := by decide +kernel
theorem dX10_is_40 : decode cX10_is 40 = .ok (.aload_n 0, 1) := by decide +kernel
theorem dX10_is_41 : decode cX10_is 41 = .ok (.getfield 141, 3) := by decide +kernel
theorem dX10_is_44 : decode cX10_is 44 = .ok (.iconst 2, 1) := by decide +kernel
theorem dX10_is_45 : decode cX10_is 45 = .ok (.iadd, 1) := by decide +kernel
theorem dX10_is_46 : decode cX10_is 46 = .ok (.invokevirtual 150, 3) := by decide +kernel
theorem dX10_is_49 : decode cX10_is 49 = .ok (.iload_n 3, 1) := by decide +kernel
theorem dX10_is_50 : decode cX10_is 50 = .ok (.if_icmp .ne 22, 3) := by decide +kernel
theorem dX10_is_53 : decode cX10_is 53 = .ok (.aload_n 0, 1) := by decide +kernel
theorem dX10_is_54 : decode cX10_is 54 = .ok (.aload_n 0, 1) := by decide +kernel
theorem dX10_is_55 : decode cX10_is 55 = .ok (.getfield 141, 3) := by decide +kernel
theorem dX10_is_58 : decode cX10_is 58 = .ok (.iconst 3, 1) := by decide +kernel
theorem dX10_is_59 : decode cX10_is 59 = .ok (.iadd, 1) := by decide +kernel
theorem dX10_is_60 : decode cX10_is 60 = .ok (.invokevirtual 150, 3) := by decide +kernel
theorem dX10_is_63 : decode cX10_is 63 = .ok (.iload 4, 2) := by decide +kernel
theorem dX10_is_65 : decode cX10_is 65 = .ok (.if_icmp .ne 7, 3) := by decide +kernel
theorem dX10_is_68 : decode cX10_is 68 = .ok (.iconst 1, 1) := by decide +kernel
theorem dX10_is_69 : decode cX10_is 69 = .ok (.goto 4, 3) := by decide +kernel
theorem dX10_is_72 : decode cX10_is 72 = .ok (.iconst 0, 1) := by decide +kernel
theorem dX10_is_73 : decode cX10_is 73 = .ok (.ireturn, 1) := by decide +kernel
theorem dX10_lineNow_0 : decode cX10_lineNow 0 = .ok (.aload_n 0, 1) := by decide +kernel
theorem dX10_lineNow_1 : decode cX10_lineNow 1 = .ok (.bipush 103, 2) := by decide +kernel
theorem dX10_lineNow_3 : decode cX10_lineNow 3 = .ok (.bipush 114, 2) := by decide +kernel
theorem dX10_lineNow_5 : decode cX10_lineNow 5 = .ok (.bipush 105, 2) := by decide +kernel
theorem dX10_lineNow_7 : decode cX10_lineNow 7 = .ok (.bipush 100, 2) := by decide +kernel
theorem dX10_lineNow_9 : decode cX10_lineNow 9 = .ok (.invokevirtual 154, 3) := by decide +kernel
theorem dX10_lineNow_12 : decode cX10_lineNow 12 = .ok (.ifCond .eq 5, 3) := by decide +kernel
theorem dX10_lineNow_15 : decode cX10_lineNow 15 = .ok (.iconst 0, 1) := by decide +kernel
theorem dX10_lineNow_16 : decode cX10_lineNow 16 = .ok (.ireturn, 1) := by decide +kernel
theorem dX10_lineNow_17 : decode cX10_lineNow 17 = .ok (.aload_n 0, 1) := by decide +kernel
theorem dX10_lineNow_18 : decode cX10_lineNow 18 = .ok (.bipush 103, 2) := by decide +kernel
theorem dX10_lineNow_20 : decode cX10_lineNow 20 = .ok (.bipush 111, 2) := by decide +kernel
theorem dX10_lineNow_22 : decode cX10_lineNow 22 = .ok (.bipush 110, 2) := by decide +kernel
theorem dX10_lineNow_24 : decode cX10_lineNow 24 = .ok (.bipush 101, 2) := by decide +kernel
theorem dX10_lineNow_26 : decode cX10_lineNow 26 = .ok (.invokevirtual 154, 3) := by decide +kernel
theorem dX10_lineNow_29 : decode cX10_lineNow 29 = .ok (.ifCond .eq 5, 3) := by decide +kernel
theorem dX10_lineNow_32 : decode cX10_lineNow 32 = .ok (.iconst 1, 1) := by decide +kernel
theorem dX10_lineNow_33 : decode cX10_lineNow 33 = .ok (.ireturn, 1) := by decide +kernel
theorem dX10_lineNow_34 : decode cX10_lineNow 34 = .ok (.aload_n 0, 1) := by decide +kernel
theorem dX10_lineNow_35 : decode cX10_lineNow 35 = .ok (.bipush 99, 2) := by decide +kernel
theorem dX10_lineNow_37 : decode cX10_lineNow 37 = .ok (.bipush 111, 2) := by decide +kernel
theorem dX10_lineNow_39 : decode cX10_lineNow 39 = .ok (.bipush 115, 2) := by decide +kernel
theorem dX10_lineNow_41 : decode cX10_lineNow 41 = .ok (.bipush 116, 2) := by decide +kernel
theorem dX10_lineNow_43 : decode cX10_lineNow 43 = .ok (.invokevirtual 154, 3) := by decide +kernel
theorem dX10_lineNow_46 : decode cX10_lineNow 46 = .ok (.ifCond .eq 5, 3) := by decide +kernel
theorem dX10_lineNow_49 : decode cX10_lineNow 49 = .ok (.iconst 2, 1) := by decide +kernel
theorem dX10_lineNow_50 : decode cX10_lineNow 50 = .ok (.ireturn, 1) := by decide +kernel
theorem dX10_lineNow_51 : decode cX10_lineNow 51 = .ok (.aload_n 0, 1) := by decide +kernel
theorem dX10_lineNow_52 : decode cX10_lineNow 52 = .ok (.bipush 115, 2) := by decide +kernel
theorem dX10_lineNow_54 : decode cX10_lineNow 54 = .ok (.bipush 105, 2) := by decide +kernel
theorem dX10_lineNow_56 : decode cX10_lineNow 56 = .ok (.bipush 122, 2) := by decide +kernel
theorem dX10_lineNow_58 : decode cX10_lineNow 58 = .ok (.bipush 101, 2) := by decide +kernel
theorem dX10_lineNow_60 : decode cX10_lineNow 60 = .ok (.invokevirtual 154, 3) := by decide +kernel
theorem dX10_lineNow_63 : decode cX10_lineNow 63 = .ok (.ifCond .eq 7, 3) := by decide +kernel
theorem dX10_lineNow_66 : decode cX10_lineNow 66 = .ok (.iconst 3, 1) := by decide +kernel
theorem dX10_lineNow_67 : decode cX10_lineNow 67 = .ok (.goto 24, 3) := by decide +kernel
theorem dX10_lineNow_70 : decode cX10_lineNow 70 = .ok (.aload_n 0, 1) := by decide +kernel
theorem dX10_lineNow_71 : decode cX10_lineNow 71 = .ok (.bipush 115, 2) := by decide +kernel
theorem dX10_lineNow_73 : decode cX10_lineNow 73 = .ok (.bipush 101, 2) := by decide +kernel
theorem dX10_lineNow_75 : decode cX10_lineNow 75 = .ok (.bipush 101, 2) := by decide +kernel
theorem dX10_lineNow_77 : decode cX10_lineNow 77 = .ok (.bipush 110, 2) := by decide +kernel
theorem dX10_lineNow_79 : decode cX10_lineNow 79 = .ok (.invokevirtual 154, 3) := by decide +kernel
theorem dX10_lineNow_82 : decode cX10_lineNow 82 = .ok (.ifCond .eq 7, 3) := by decide +kernel
theorem dX10_lineNow_85 : decode cX10_lineNow 85 = .ok (.iconst 4, 1) := by decide +kernel
theorem dX10_lineNow_86 : decode cX10_lineNow 86 = .ok (.goto 5, 3) := by decide +kernel
theorem dX10_lineNow_89 : decode cX10_lineNow 89 = .ok (.bipush (-4), 2) := by decide +kernel
theorem dX10_lineNow_91 : decode cX10_lineNow 91 = .ok (.ireturn, 1) := by decide +kernel
theorem dX10_next_0 : decode cX10_next 0 = .ok (.aload_n 0, 1) := by decide +kernel
theorem dX10_next_1 : decode cX10_next 1 = .ok (.getfield 138, 3) := by decide +kernel
theorem dX10_next_4 : decode cX10_next 4 = .ok (.ifCond .le 4, 3) := by decide +kernel
theorem dX10_next_7 : decode cX10_next 7 = .ok (.return_, 1) := by decide +kernel
theorem dX10_next_8 : decode cX10_next 8 = .ok (.aload_n 0, 1) := by decide +kernel
theorem dX10_next_9 : decode cX10_next 9 = .ok (.aload_n 0, 1) := by decide +kernel
theorem dX10_next_10 : decode cX10_next 10 = .ok (.getfield 147, 3) := by decide +kernel
theorem dX10_next_13 : decode cX10_next 13 = .ok (.invokevirtual 150, 3) := by decide +kernel
theorem dX10_next_16 : decode cX10_next 16 = .ok (.bipush 32, 2) := by decide +kernel
theorem dX10_next_18 : decode cX10_next 18 = .ok (.if_icmp .ne 16, 3) := by decide +kernel
theorem dX10_next_21 : decode cX10_next 21 = .ok (.aload_n 0, 1) := by decide +kernel
theorem dX10_next_22 : decode cX10_next 22 = .ok (.dup, 1) := by decide +kernel
theorem dX10_next_23 : decode cX10_next 23 = .ok (.getfield 147, 3) := by decide +kernel
theorem dX10_next_26 : decode cX10_next 26 = .ok (.iconst 1, 1) := by decide +kernel
theorem dX10_next_27 : decode cX10_next 27 = .ok (.iadd, 1) := by decide +kernel
theorem dX10_next_28 : decode cX10_next 28 = .ok (.putfield 147, 3) := by decide +kernel
theorem dX10_next_31 : decode cX10_next 31 = .ok (.goto (-23), 3) := by decide +kernel
theorem dX10_next_34 : decode cX10_next 34 = .ok (.aload_n 0, 1) := by decide +kernel
theorem dX10_next_35 : decode cX10_next 35 = .ok (.aload_n 0, 1) := by decide +kernel
theorem dX10_next_36 : decode cX10_next 36 = .ok (.getfield 147, 3) := by decide +kernel
theorem dX10_next_39 : decode cX10_next 39 = .ok (.putfield 141, 3) := by decide +kernel
theorem dX10_next_42 : decode cX10_next 42 = .ok (.aload_n 0, 1) := by decide +kernel
theorem dX10_next_43 : decode cX10_next 43 = .ok (.aload_n 0, 1) := by decide +kernel
theorem dX10_next_44 : decode cX10_next 44 = .ok (.getfield 147, 3) := by decide +kernel
theorem dX10_next_47 : decode cX10_next 47 = .ok (.invokevirtual 150, 3) := by decide +kernel
theorem dX10_next_50 : decode cX10_next 50 = .ok (.istore_n 1, 1) := by decide +kernel
theorem dX10_next_51 : decode cX10_next 51 = .ok (.iload_n 1, 1) := by decide +kernel
theorem dX10_next_52 : decode cX10_next 52 = .ok (.ifCond .ge 11, 3) := by decide +kernel
theorem dX10_next_55 : decode cX10_next 55 = .ok (.aload_n 0, 1) := by decide +kernel
theorem dX10_next_56 : decode cX10_next 56 = .ok (.iconst 0, 1) := by decide +kernel
theorem dX10_next_57 : decode cX10_next 57 = .ok (.putfield 158, 3) := by decide +kernel
theorem dX10_next_60 : decode cX10_next 60 = .ok (.goto 214, 3) := by decide +kernel
theorem dX10_next_63 : decode cX10_next 63 = .ok (.iload_n 1, 1) := by decide +kernel
theorem dX10_next_64 : decode cX10_next 64 = .ok (.i2l, 1) := by decide +kernel
theorem dX10_next_65 : decode cX10_next 65 = .ok (.ldc2_w 161, 3) := by decide +kernel
theorem dX10_next_68 : decode cX10_next 68 = .ok (.ldc2_w 163, 3) := by decide +kernel
theorem dX10_next_71 : decode cX10_next 71 = .ok (.invokestatic 134, 3) := by decide +kernel
theorem dX10_next_74 : decode cX10_next 74 = .ok (.ifCond .eq 42, 3) := by decide +kernel
theorem dX10_next_77 : decode cX10_next 77 = .ok (.aload_n 0, 1) := by decide +kernel
theorem dX10_next_78 : decode cX10_next 78 = .ok (.iconst 1, 1) := by decide +kernel
theorem dX10_next_79 : decode cX10_next 79 = .ok (.putfield 158, 3) := by decide +kernel
theorem dX10_next_82 : decode cX10_next 82 = .ok (.aload_n 0, 1) := by decide +kernel
theorem dX10_next_83 : decode cX10_next 83 = .ok (.aload_n 0, 1) := by decide +kernel
theorem dX10_next_84 : decode cX10_next 84 = .ok (.getfield 147, 3) := by decide +kernel
theorem dX10_next_87 : decode cX10_next 87 = .ok (.invokevirtual 150, 3) := by decide +kernel
theorem dX10_next_90 : decode cX10_next 90 = .ok (.i2l, 1) := by decide +kernel
theorem dX10_next_91 : decode cX10_next 91 = .ok (.ldc2_w 161, 3) := by decide +kernel
theorem dX10_next_94 : decode cX10_next 94 = .ok (.ldc2_w 163, 3) := by decide +kernel
theorem dX10_next_97 : decode cX10_next 97 = .ok (.invokestatic 134, 3) := by decide +kernel
theorem dX10_next_100 : decode cX10_next 100 = .ok (.ifCond .eq 174, 3) := by decide +kernel
theorem dX10_next_103 : decode cX10_next 103 = .ok (.aload_n 0, 1) := by decide +kernel
theorem dX10_next_104 : decode cX10_next 104 = .ok (.dup, 1) := by decide +kernel
theorem dX10_next_105 : decode cX10_next 105 = .ok (.getfield 147, 3) := by decide +kernel
theorem dX10_next_108 : decode cX10_next 108 = .ok (.iconst 1, 1) := by decide +kernel
theorem dX10_next_109 : decode cX10_next 109 = .ok (.iadd, 1) := by decide +kernel
theorem dX10_next_110 : decode cX10_next 110 = .ok (.putfield 147, 3) := by decide +kernel
theorem dX10_next_113 : decode cX10_next 113 = .ok (.goto (-31), 3) := by decide +kernel
theorem dX10_next_116 : decode cX10_next 116 = .ok (.iload_n 1, 1) := by decide +kernel
theorem dX10_next_117 : decode cX10_next 117 = .ok (.i2l, 1) := by decide +kernel
theorem dX10_next_118 : decode cX10_next 118 = .ok (.ldc2_w 165, 3) := by decide +kernel
theorem dX10_next_121 : decode cX10_next 121 = .ok (.ldc2_w 167, 3) := by decide +kernel
theorem dX10_next_124 : decode cX10_next 124 = .ok (.invokestatic 134, 3) := by decide +kernel
theorem dX10_next_127 : decode cX10_next 127 = .ok (.ifCond .eq 116, 3) := by decide +kernel
theorem dX10_next_130 : decode cX10_next 130 = .ok (.aload_n 0, 1) := by decide +kernel
theorem dX10_next_131 : decode cX10_next 131 = .ok (.iconst 2, 1) := by decide +kernel
theorem dX10_next_132 : decode cX10_next 132 = .ok (.putfield 158, 3) := by decide +kernel
theorem dX10_next_135 : decode cX10_next 135 = .ok (.aload_n 0, 1) := by decide +kernel
theorem dX10_next_136 : decode cX10_next 136 = .ok (.iconst 0, 1) := by decide +kernel
theorem dX10_next_137 : decode cX10_next 137 = .ok (.putfield 169, 3) := by decide +kernel
theorem dX10_next_140 : decode cX10_next 140 = .ok (.aload_n 0, 1) := by decide +kernel
theorem dX10_next_141 : decode cX10_next 141 = .ok (.aload_n 0, 1) := by decide +kernel
theorem dX10_next_142 : decode cX10_next 142 = .ok (.getfield 147, 3) := by decide +kernel
theorem dX10_next_145 : decode cX10_next 145 = .ok (.invokevirtual 150, 3) := by decide +kernel
theorem dX10_next_148 : decode cX10_next 148 = .ok (.i2l, 1) := by decide +kernel
theorem dX10_next_149 : decode cX10_next 149 = .ok (.ldc2_w 165, 3) := by decide +kernel
theorem dX10_next_152 : decode cX10_next 152 = .ok (.ldc2_w 167, 3) := by decide +kernel
theorem dX10_next_155 : decode cX10_next 155 = .ok (.invokestatic 134, 3) := by decide +kernel
theorem dX10_next_158 : decode cX10_next 158 = .ok (.ifCond .eq 59, 3) := by decide +kernel
theorem dX10_next_161 : decode cX10_next 161 = .ok (.aload_n 0, 1) := by decide +kernel
theorem dX10_next_162 : decode cX10_next 162 = .ok (.aload_n 0, 1) := by decide +kernel
theorem dX10_next_163 : decode cX10_next 163 = .ok (.getfield 147, 3) := by decide +kernel
theorem dX10_next_166 : decode cX10_next 166 = .ok (.aload_n 0, 1) := by decide +kernel
theorem dX10_next_167 : decode cX10_next 167 = .ok (.getfield 141, 3) := by decide +kernel
theorem dX10_next_170 : decode cX10_next 170 = .ok (.isub, 1) := by decide +kernel
theorem dX10_next_171 : decode cX10_next 171 = .ok (.iconst 2, 1) := by decide +kernel
theorem dX10_next_172 : decode cX10_next 172 = .ok (.if_icmp .ge 25, 3) := by decide +kernel
theorem dX10_next_175 : decode cX10_next 175 = .ok (.bipush 10, 2) := by decide +kernel
theorem dX10_next_177 : decode cX10_next 177 = .ok (.aload_n 0, 1) := by decide +kernel
theorem dX10_next_178 : decode cX10_next 178 = .ok (.getfield 169, 3) := by decide +kernel
theorem dX10_next_181 : decode cX10_next 181 = .ok (.imul, 1) := by decide +kernel
theorem dX10_next_182 : decode cX10_next 182 = .ok (.aload_n 0, 1) := by decide +kernel
theorem dX10_next_183 : decode cX10_next 183 = .ok (.aload_n 0, 1) := by decide +kernel
theorem dX10_next_184 : decode cX10_next 184 = .ok (.getfield 147, 3) := by decide +kernel
theorem dX10_next_187 : decode cX10_next 187 = .ok (.invokevirtual 150, 3) := by decide +kernel
theorem dX10_next_190 : decode cX10_next 190 = .ok (.iadd, 1) := by decide +kernel
theorem dX10_next_191 : decode cX10_next 191 = .ok (.bipush 48, 2) := by decide +kernel
theorem dX10_next_193 : decode cX10_next 193 = .ok (.isub, 1) := by decide +kernel
theorem dX10_next_194 : decode cX10_next 194 = .ok (.goto 7, 3) := by decide +kernel
theorem dX10_next_197 : decode cX10_next 197 = .ok (.aload_n 0, 1) := by decide +kernel
theorem dX10_next_198 : decode cX10_next 198 = .ok (.getfield 169, 3) := by decide +kernel
theorem dX10_next_201 : decode cX10_next 201 = .ok (.putfield 169, 3) := by decide +kernel
theorem dX10_next_204 : decode cX10_next 204 = .ok (.aload_n 0, 1) := by decide +kernel
theorem dX10_next_205 : decode cX10_next 205 = .ok (.dup, 1) := by decide +kernel
theorem dX10_next_206 : decode cX10_next 206 = .ok (.getfield 147, 3) := by decide +kernel
theorem dX10_next_209 : decode cX10_next 209 = .ok (.iconst 1, 1) := by decide +kernel
theorem dX10_next_210 : decode cX10_next 210 = .ok (.iadd, 1) := by decide +kernel
theorem dX10_next_211 : decode cX10_next 211 = .ok (.putfield 147, 3) := by decide +kernel
theorem dX10_next_214 : decode cX10_next 214 = .ok (.goto (-74), 3) := by decide +kernel
theorem dX10_next_217 : decode cX10_next 217 = .ok (.aload_n 0, 1) := by decide +kernel
theorem dX10_next_218 : decode cX10_next 218 = .ok (.aload_n 0, 1) := by decide +kernel
theorem dX10_next_219 : decode cX10_next 219 = .ok (.getfield 147, 3) := by decide +kernel
theorem dX10_next_222 : decode cX10_next 222 = .ok (.aload_n 0, 1) := by decide +kernel
theorem dX10_next_223 : decode cX10_next 223 = .ok (.getfield 141, 3) := by decide +kernel
theorem dX10_next_226 : decode cX10_next 226 = .ok (.isub, 1) := by decide +kernel
theorem dX10_next_227 : decode cX10_next 227 = .ok (.iconst 2, 1) := by decide +kernel
theorem dX10_next_228 : decode cX10_next 228 = .ok (.if_icmp .gt 7, 3) := by decide +kernel
theorem dX10_next_231 : decode cX10_next 231 = .ok (.iconst 1, 1) := by decide +kernel
theorem dX10_next_232 : decode cX10_next 232 = .ok (.goto 4, 3) := by decide +kernel
theorem dX10_next_235 : decode cX10_next 235 = .ok (.iconst 0, 1) := by decide +kernel
theorem dX10_next_236 : decode cX10_next 236 = .ok (.iconst 1, 1) := by decide +kernel
theorem dX10_next_237 : decode cX10_next 237 = .ok (.invokevirtual 172, 3) := by decide +kernel
theorem dX10_next_240 : decode cX10_next 240 = .ok (.goto 34, 3) := by decide +kernel
theorem dX10_next_243 : decode cX10_next 243 = .ok (.aload_n 0, 1) := by decide +kernel
theorem dX10_next_244 : decode cX10_next 244 = .ok (.iconst 3, 1) := by decide +kernel
theorem dX10_next_245 : decode cX10_next 245 = .ok (.putfield 158, 3) := by decide +kernel
theorem dX10_next_248 : decode cX10_next 248 = .ok (.aload_n 0, 1) := by decide +kernel
theorem dX10_next_249 : decode cX10_next 249 = .ok (.iload_n 1, 1) := by decide +kernel
theorem dX10_next_250 : decode cX10_next 250 = .ok (.bipush 59, 2) := by decide +kernel
theorem dX10_next_252 : decode cX10_next 252 = .ok (.if_icmp .ne 7, 3) := by decide +kernel
theorem dX10_next_255 : decode cX10_next 255 = .ok (.iconst 1, 1) := by decide +kernel
theorem dX10_next_256 : decode cX10_next 256 = .ok (.goto 4, 3) := by decide +kernel
theorem dX10_next_259 : decode cX10_next 259 = .ok (.iconst 0, 1) := by decide +kernel
theorem dX10_next_260 : decode cX10_next 260 = .ok (.iconst 1, 1) := by decide +kernel
theorem dX10_next_261 : decode cX10_next 261 = .ok (.invokevirtual 172, 3) := by decide +kernel
theorem dX10_next_264 : decode cX10_next 264 = .ok (.aload_n 0, 1) := by decide +kernel
theorem dX10_next_265 : decode cX10_next 265 = .ok (.dup, 1) := by decide +kernel
theorem dX10_next_266 : decode cX10_next 266 = .ok (.getfield 147, 3) := by decide +kernel
theorem dX10_next_269 : decode cX10_next 269 = .ok (.iconst 1, 1) := by decide +kernel
theorem dX10_next_270 : decode cX10_next 270 = .ok (.iadd, 1) := by decide +kernel
theorem dX10_next_271 : decode cX10_next 271 = .ok (.putfield 147, 3) := by decide +kernel
theorem dX10_next_274 : decode cX10_next 274 = .ok (.return_, 1) := by decide +kernel
theorem dX10_looked_0 : decode cX10_looked 0 = .ok (.aload_n 0, 1) := by decide +kernel
theorem dX10_looked_1 : decode cX10_looked 1 = .ok (.getfield 138, 3) := by decide +kernel
theorem dX10_looked_4 : decode cX10_looked 4 = .ok (.ifCond .ne 21, 3) := by decide +kernel
theorem dX10_looked_7 : decode cX10_looked 7 = .ok (.aload_n 0, 1) := by decide +kernel
theorem dX10_looked_8 : decode cX10_looked 8 = .ok (.aload_n 0, 1) := by decide +kernel
theorem dX10_looked_9 : decode cX10_looked 9 = .ok (.getfield 158, 3) := by decide +kernel
theorem dX10_looked_12 : decode cX10_looked 12 = .ok (.iconst 2, 1) := by decide +kernel
theorem dX10_looked_13 : decode cX10_looked 13 = .ok (.if_icmp .ne 7, 3) := by decide +kernel
theorem dX10_looked_16 : decode cX10_looked 16 = .ok (.iconst 1, 1) := by decide +kernel
theorem dX10_looked_17 : decode cX10_looked 17 = .ok (.goto 4, 3) := by decide +kernel
theorem dX10_looked_20 : decode cX10_looked 20 = .ok (.iconst 0, 1) := by decide +kernel
theorem dX10_looked_21 : decode cX10_looked 21 = .ok (.iconst 2, 1) := by decide +kernel
theorem dX10_looked_22 : decode cX10_looked 22 = .ok (.invokevirtual 172, 3) := by decide +kernel
theorem dX10_looked_25 : decode cX10_looked 25 = .ok (.aload_n 0, 1) := by decide +kernel
theorem dX10_looked_26 : decode cX10_looked 26 = .ok (.getfield 138, 3) := by decide +kernel
theorem dX10_looked_29 : decode cX10_looked 29 = .ok (.ifCond .ne 20, 3) := by decide +kernel
theorem dX10_looked_32 : decode cX10_looked 32 = .ok (.aload_n 0, 1) := by decide +kernel
theorem dX10_looked_33 : decode cX10_looked 33 = .ok (.aload_n 0, 1) := by decide +kernel
theorem dX10_looked_34 : decode cX10_looked 34 = .ok (.getfield 169, 3) := by decide +kernel
theorem dX10_looked_37 : decode cX10_looked 37 = .ok (.i2l, 1) := by decide +kernel
theorem dX10_looked_38 : decode cX10_looked 38 = .ok (.iload_n 1, 1) := by decide +kernel
theorem dX10_looked_39 : decode cX10_looked 39 = .ok (.i2l, 1) := by decide +kernel
theorem dX10_looked_40 : decode cX10_looked 40 = .ok (.iload_n 2, 1) := by decide +kernel
theorem dX10_looked_41 : decode cX10_looked 41 = .ok (.i2l, 1) := by decide +kernel
theorem dX10_looked_42 : decode cX10_looked 42 = .ok (.invokestatic 134, 3) := by decide +kernel
theorem dX10_looked_45 : decode cX10_looked 45 = .ok (.iconst 3, 1) := by decide +kernel
theorem dX10_looked_46 : decode cX10_looked 46 = .ok (.invokevirtual 172, 3) := by decide +kernel
theorem dX10_looked_49 : decode cX10_looked 49 = .ok (.aload_n 0, 1) := by decide +kernel
theorem dX10_looked_50 : decode cX10_looked 50 = .ok (.getfield 138, 3) := by decide +kernel
theorem dX10_looked_53 : decode cX10_looked 53 = .ok (.ifCond .ne 10, 3) := by decide +kernel
theorem dX10_looked_56 : decode cX10_looked 56 = .ok (.aload_n 0, 1) := by decide +kernel
theorem dX10_looked_57 : decode cX10_looked 57 = .ok (.getfield 169, 3) := by decide +kernel
theorem dX10_looked_60 : decode cX10_looked 60 = .ok (.goto 4, 3) := by decide +kernel
theorem dX10_looked_63 : decode cX10_looked 63 = .ok (.iconst 0, 1) := by decide +kernel
theorem dX10_looked_64 : decode cX10_looked 64 = .ok (.ireturn, 1) := by decide +kernel
theorem dX10_readNumber_0 : decode cX10_readNumber 0 = .ok (.aload_n 0, 1) := by decide +kernel
theorem dX10_readNumber_1 : decode cX10_readNumber 1 = .ok (.iload_n 1, 1) := by decide +kernel
theorem dX10_readNumber_2 : decode cX10_readNumber 2 = .ok (.iload_n 2, 1) := by decide +kernel
theorem dX10_readNumber_3 : decode cX10_readNumber 3 = .ok (.invokevirtual 176, 3) := by decide +kernel
theorem dX10_readNumber_6 : decode cX10_readNumber 6 = .ok (.istore_n 3, 1) := by decide +kernel
theorem dX10_readNumber_7 : decode cX10_readNumber 7 = .ok (.aload_n 0, 1) := by decide +kernel
theorem dX10_readNumber_8 : decode cX10_readNumber 8 = .ok (.invokevirtual 179, 3) := by decide +kernel
theorem dX10_readNumber_11 : decode cX10_readNumber 11 = .ok (.iload_n 3, 1) := by decide +kernel
theorem dX10_readNumber_12 : decode cX10_readNumber 12 = .ok (.ireturn, 1) := by decide +kernel
theorem dX10_lookedMatch_0 : decode cX10_lookedMatch 0 = .ok (.aload_n 0, 1) := by decide +kernel
theorem dX10_lookedMatch_1 : decode cX10_lookedMatch 1 = .ok (.iconst 0, 1) := by decide +kernel
theorem dX10_lookedMatch_2 : decode cX10_lookedMatch 2 = .ok (.bipush 30, 2) := by decide +kernel
theorem dX10_lookedMatch_4 : decode cX10_lookedMatch 4 = .ok (.invokevirtual 176, 3) := by decide +kernel
theorem dX10_lookedMatch_7 : decode cX10_lookedMatch 7 = .ok (.istore_n 1, 1) := by decide +kernel
theorem dX10_lookedMatch_8 : decode cX10_lookedMatch 8 = .ok (.aload_n 0, 1) := by decide +kernel
theorem dX10_lookedMatch_9 : decode cX10_lookedMatch 9 = .ok (.iload_n 1, 1) := by decide +kernel
theorem dX10_lookedMatch_10 : decode cX10_lookedMatch 10 = .ok (.aload_n 0, 1) := by decide +kernel
theorem dX10_lookedMatch_11 : decode cX10_lookedMatch 11 = .ok (.getfield 100, 3) := by decide +kernel
theorem dX10_lookedMatch_14 : decode cX10_lookedMatch 14 = .ok (.if_icmp .le 7, 3) := by decide +kernel
theorem dX10_lookedMatch_17 : decode cX10_lookedMatch 17 = .ok (.iload_n 1, 1) := by decide +kernel
theorem dX10_lookedMatch_18 : decode cX10_lookedMatch 18 = .ok (.goto 7, 3) := by decide +kernel
theorem dX10_lookedMatch_21 : decode cX10_lookedMatch 21 = .ok (.aload_n 0, 1) := by decide +kernel
theorem dX10_lookedMatch_22 : decode cX10_lookedMatch 22 = .ok (.getfield 100, 3) := by decide +kernel
theorem dX10_lookedMatch_25 : decode cX10_lookedMatch 25 = .ok (.putfield 100, 3) := by decide +kernel
theorem dX10_lookedMatch_28 : decode cX10_lookedMatch 28 = .ok (.iload_n 1, 1) := by decide +kernel
theorem dX10_lookedMatch_29 : decode cX10_lookedMatch 29 = .ok (.ireturn, 1) := by decide +kernel
theorem dX10_readGone_0 : decode cX10_readGone 0 = .ok (.iconst 1, 1) := by decide +kernel
theorem dX10_readGone_1 : decode cX10_readGone 1 = .ok (.istore_n 1, 1) := by decide +kernel
theorem dX10_readGone_2 : decode cX10_readGone 2 = .ok (.aload_n 0, 1) := by decide +kernel
theorem dX10_readGone_3 : decode cX10_readGone 3 = .ok (.getfield 138, 3) := by decide +kernel
theorem dX10_readGone_6 : decode cX10_readGone 6 = .ok (.ifCond .ne 73, 3) := by decide +kernel
theorem dX10_readGone_9 : decode cX10_readGone 9 = .ok (.iload_n 1, 1) := by decide +kernel
theorem dX10_readGone_10 : decode cX10_readGone 10 = .ok (.ifCond .eq 69, 3) := by decide +kernel
theorem dX10_readGone_13 : decode cX10_readGone 13 = .ok (.aload_n 0, 1) := by decide +kernel
theorem dX10_readGone_14 : decode cX10_readGone 14 = .ok (.invokevirtual 182, 3) := by decide +kernel
theorem dX10_readGone_17 : decode cX10_readGone 17 = .ok (.istore_n 2, 1) := by decide +kernel
theorem dX10_readGone_18 : decode cX10_readGone 18 = .ok (.aload_n 0, 1) := by decide +kernel
theorem dX10_readGone_19 : decode cX10_readGone 19 = .ok (.getfield 138, 3) := by decide +kernel
theorem dX10_readGone_22 : decode cX10_readGone 22 = .ok (.ifCond .ne 36, 3) := by decide +kernel
theorem dX10_readGone_25 : decode cX10_readGone 25 = .ok (.aload_n 0, 1) := by decide +kernel
theorem dX10_readGone_26 : decode cX10_readGone 26 = .ok (.aload_n 0, 1) := by decide +kernel
theorem dX10_readGone_27 : decode cX10_readGone 27 = .ok (.getfield 90, 3) := by decide +kernel
theorem dX10_readGone_30 : decode cX10_readGone 30 = .ok (.iload_n 2, 1) := by decide +kernel
theorem dX10_readGone_31 : decode cX10_readGone 31 = .ok (.ishr, 1) := by decide +kernel
theorem dX10_readGone_32 : decode cX10_readGone 32 = .ok (.iconst 1, 1) := by decide +kernel
theorem dX10_readGone_33 : decode cX10_readGone 33 = .ok (.iand, 1) := by decide +kernel
theorem dX10_readGone_34 : decode cX10_readGone 34 = .ok (.ifCond .ne 7, 3) := by decide +kernel
theorem dX10_readGone_37 : decode cX10_readGone 37 = .ok (.iconst 1, 1) := by decide +kernel
theorem dX10_readGone_38 : decode cX10_readGone 38 = .ok (.goto 4, 3) := by decide +kernel
theorem dX10_readGone_41 : decode cX10_readGone 41 = .ok (.iconst 0, 1) := by decide +kernel
theorem dX10_readGone_42 : decode cX10_readGone 42 = .ok (.iconst 4, 1) := by decide +kernel
theorem dX10_readGone_43 : decode cX10_readGone 43 = .ok (.invokevirtual 172, 3) := by decide +kernel
theorem dX10_readGone_46 : decode cX10_readGone 46 = .ok (.aload_n 0, 1) := by decide +kernel
theorem dX10_readGone_47 : decode cX10_readGone 47 = .ok (.dup, 1) := by decide +kernel
theorem dX10_readGone_48 : decode cX10_readGone 48 = .ok (.getfield 90, 3) := by decide +kernel
theorem dX10_readGone_51 : decode cX10_readGone 51 = .ok (.iconst 1, 1) := by decide +kernel
theorem dX10_readGone_52 : decode cX10_readGone 52 = .ok (.iload_n 2, 1) := by decide +kernel
theorem dX10_readGone_53 : decode cX10_readGone 53 = .ok (.ishl, 1) := by decide +kernel
theorem dX10_readGone_54 : decode cX10_readGone 54 = .ok (.ior, 1) := by decide +kernel
theorem dX10_readGone_55 : decode cX10_readGone 55 = .ok (.putfield 90, 3) := by decide +kernel
theorem dX10_readGone_58 : decode cX10_readGone 58 = .ok (.aload_n 0, 1) := by decide +kernel
theorem dX10_readGone_59 : decode cX10_readGone 59 = .ok (.invokevirtual 179, 3) := by decide +kernel
theorem dX10_readGone_62 : decode cX10_readGone 62 = .ok (.aload_n 0, 1) := by decide +kernel
theorem dX10_readGone_63 : decode cX10_readGone 63 = .ok (.getfield 158, 3) := by decide +kernel
theorem dX10_readGone_66 : decode cX10_readGone 66 = .ok (.iconst 2, 1) := by decide +kernel
theorem dX10_readGone_67 : decode cX10_readGone 67 = .ok (.if_icmp .ne 7, 3) := by decide +kernel
theorem dX10_readGone_70 : decode cX10_readGone 70 = .ok (.iconst 1, 1) := by decide +kernel
theorem dX10_readGone_71 : decode cX10_readGone 71 = .ok (.goto 4, 3) := by decide +kernel
theorem dX10_readGone_74 : decode cX10_readGone 74 = .ok (.iconst 0, 1) := by decide +kernel
theorem dX10_readGone_75 : decode cX10_readGone 75 = .ok (.istore_n 1, 1) := by decide +kernel
theorem dX10_readGone_76 : decode cX10_readGone 76 = .ok (.goto (-74), 3) := by decide +kernel
theorem dX10_readGone_79 : decode cX10_readGone 79 = .ok (.return_, 1) := by decide +kernel
theorem dX10_readSizes_0 : decode cX10_readSizes 0 = .ok (.iconst 1, 1) := by decide +kernel
theorem dX10_readSizes_1 : decode cX10_readSizes 1 = .ok (.istore_n 1, 1) := by decide +kernel
theorem dX10_readSizes_2 : decode cX10_readSizes 2 = .ok (.aload_n 0, 1) := by decide +kernel
theorem dX10_readSizes_3 : decode cX10_readSizes 3 = .ok (.getfield 138, 3) := by decide +kernel
theorem dX10_readSizes_6 : decode cX10_readSizes 6 = .ok (.ifCond .ne 75, 3) := by decide +kernel
theorem dX10_readSizes_9 : decode cX10_readSizes 9 = .ok (.iload_n 1, 1) := by decide +kernel
theorem dX10_readSizes_10 : decode cX10_readSizes 10 = .ok (.ifCond .eq 71, 3) := by decide +kernel
theorem dX10_readSizes_13 : decode cX10_readSizes 13 = .ok (.aload_n 0, 1) := by decide +kernel
theorem dX10_readSizes_14 : decode cX10_readSizes 14 = .ok (.iconst 1, 1) := by decide +kernel
theorem dX10_readSizes_15 : decode cX10_readSizes 15 = .ok (.iconst 3, 1) := by decide +kernel
theorem dX10_readSizes_16 : decode cX10_readSizes 16 = .ok (.invokevirtual 176, 3) := by decide +kernel
theorem dX10_readSizes_19 : decode cX10_readSizes 19 = .ok (.istore_n 2, 1) := by decide +kernel
theorem dX10_readSizes_20 : decode cX10_readSizes 20 = .ok (.aload_n 0, 1) := by decide +kernel
theorem dX10_readSizes_21 : decode cX10_readSizes 21 = .ok (.getfield 138, 3) := by decide +kernel
theorem dX10_readSizes_24 : decode cX10_readSizes 24 = .ok (.ifCond .ne 36, 3) := by decide +kernel
theorem dX10_readSizes_27 : decode cX10_readSizes 27 = .ok (.aload_n 0, 1) := by decide +kernel
theorem dX10_readSizes_28 : decode cX10_readSizes 28 = .ok (.aload_n 0, 1) := by decide +kernel
theorem dX10_readSizes_29 : decode cX10_readSizes 29 = .ok (.getfield 93, 3) := by decide +kernel
theorem dX10_readSizes_32 : decode cX10_readSizes 32 = .ok (.iload_n 2, 1) := by decide +kernel
theorem dX10_readSizes_33 : decode cX10_readSizes 33 = .ok (.ishr, 1) := by decide +kernel
theorem dX10_readSizes_34 : decode cX10_readSizes 34 = .ok (.iconst 1, 1) := by decide +kernel
theorem dX10_readSizes_35 : decode cX10_readSizes 35 = .ok (.iand, 1) := by decide +kernel
theorem dX10_readSizes_36 : decode cX10_readSizes 36 = .ok (.ifCond .ne 7, 3) := by decide +kernel
theorem dX10_readSizes_39 : decode cX10_readSizes 39 = .ok (.iconst 1, 1) := by decide +kernel
theorem dX10_readSizes_40 : decode cX10_readSizes 40 = .ok (.goto 4, 3) := by decide +kernel
theorem dX10_readSizes_43 : decode cX10_readSizes 43 = .ok (.iconst 0, 1) := by decide +kernel
theorem dX10_readSizes_44 : decode cX10_readSizes 44 = .ok (.iconst 4, 1) := by decide +kernel
theorem dX10_readSizes_45 : decode cX10_readSizes 45 = .ok (.invokevirtual 172, 3) := by decide +kernel
theorem dX10_readSizes_48 : decode cX10_readSizes 48 = .ok (.aload_n 0, 1) := by decide +kernel
theorem dX10_readSizes_49 : decode cX10_readSizes 49 = .ok (.dup, 1) := by decide +kernel
theorem dX10_readSizes_50 : decode cX10_readSizes 50 = .ok (.getfield 93, 3) := by decide +kernel
theorem dX10_readSizes_53 : decode cX10_readSizes 53 = .ok (.iconst 1, 1) := by decide +kernel
theorem dX10_readSizes_54 : decode cX10_readSizes 54 = .ok (.iload_n 2, 1) := by decide +kernel
theorem dX10_readSizes_55 : decode cX10_readSizes 55 = .ok (.ishl, 1) := by decide +kernel
theorem dX10_readSizes_56 : decode cX10_readSizes 56 = .ok (.ior, 1) := by decide +kernel
theorem dX10_readSizes_57 : decode cX10_readSizes 57 = .ok (.putfield 93, 3) := by decide +kernel
theorem dX10_readSizes_60 : decode cX10_readSizes 60 = .ok (.aload_n 0, 1) := by decide +kernel
theorem dX10_readSizes_61 : decode cX10_readSizes 61 = .ok (.invokevirtual 179, 3) := by decide +kernel
theorem dX10_readSizes_64 : decode cX10_readSizes 64 = .ok (.aload_n 0, 1) := by decide +kernel
theorem dX10_readSizes_65 : decode cX10_readSizes 65 = .ok (.getfield 158, 3) := by decide +kernel
theorem dX10_readSizes_68 : decode cX10_readSizes 68 = .ok (.iconst 2, 1) := by decide +kernel
theorem dX10_readSizes_69 : decode cX10_readSizes 69 = .ok (.if_icmp .ne 7, 3) := by decide +kernel
theorem dX10_readSizes_72 : decode cX10_readSizes 72 = .ok (.iconst 1, 1) := by decide +kernel
theorem dX10_readSizes_73 : decode cX10_readSizes 73 = .ok (.goto 4, 3) := by decide +kernel
theorem dX10_readSizes_76 : decode cX10_readSizes 76 = .ok (.iconst 0, 1) := by decide +kernel
theorem dX10_readSizes_77 : decode cX10_readSizes 77 = .ok (.istore_n 1, 1) := by decide +kernel
theorem dX10_readSizes_78 : decode cX10_readSizes 78 = .ok (.goto (-76), 3) := by decide +kernel
theorem dX10_readSizes_81 : decode cX10_readSizes 81 = .ok (.return_, 1) := by decide +kernel
theorem dX10_readLineOf_0 : decode cX10_readLineOf 0 = .ok (.iload_n 1, 1) := by decide +kernel
theorem dX10_readLineOf_1 : decode cX10_readLineOf 1 = .ok (.tableswitch 142 0 3 #[31, 59, 66, 135], 31) := by decide +kernel
theorem dX10_readLineOf_32 : decode cX10_readLineOf 32 = .ok (.aload_n 0, 1) := by decide +kernel
end
section
theorem dX10_readLineOf_33 : decode cX10_readLineOf 33 = .ok (.iconst 1, 1) := by decide +kernel
theorem dX10_readLineOf_34 : decode cX10_readLineOf 34 = .ok (.putfield 96, 3) := by decide +kernel
theorem dX10_readLineOf_37 : decode cX10_readLineOf 37 = .ok (.aload_n 0, 1) := by decide +kernel
theorem dX10_readLineOf_38 : decode cX10_readLineOf 38 = .ok (.aload_n 0, 1) := by decide +kernel
theorem dX10_readLineOf_39 : decode cX10_readLineOf 39 = .ok (.iconst 1, 1) := by decide +kernel
theorem dX10_readLineOf_40 : decode cX10_readLineOf 40 = .ok (.iconst 4, 1) := by decide +kernel
theorem dX10_readLineOf_41 : decode cX10_readLineOf 41 = .ok (.invokevirtual 186, 3) := by decide +kernel
theorem dX10_readLineOf_44 : decode cX10_readLineOf 44 = .ok (.putfield 83, 3) := by decide +kernel
theorem dX10_readLineOf_47 : decode cX10_readLineOf 47 = .ok (.aload_n 0, 1) := by decide +kernel
theorem dX10_readLineOf_48 : decode cX10_readLineOf 48 = .ok (.aload_n 0, 1) := by decide +kernel
theorem dX10_readLineOf_49 : decode cX10_readLineOf 49 = .ok (.iconst 1, 1) := by decide +kernel
theorem dX10_readLineOf_50 : decode cX10_readLineOf 50 = .ok (.iconst 3, 1) := by decide +kernel
theorem dX10_readLineOf_51 : decode cX10_readLineOf 51 = .ok (.invokevirtual 186, 3) := by decide +kernel
theorem dX10_readLineOf_54 : decode cX10_readLineOf 54 = .ok (.putfield 87, 3) := by decide +kernel
theorem dX10_readLineOf_57 : decode cX10_readLineOf 57 = .ok (.goto 138, 3) := by decide +kernel
theorem dX10_readLineOf_60 : decode cX10_readLineOf 60 = .ok (.aload_n 0, 1) := by decide +kernel
theorem dX10_readLineOf_61 : decode cX10_readLineOf 61 = .ok (.invokevirtual 189, 3) := by decide +kernel
theorem dX10_readLineOf_64 : decode cX10_readLineOf 64 = .ok (.goto 131, 3) := by decide +kernel
theorem dX10_readLineOf_67 : decode cX10_readLineOf 67 = .ok (.aload_n 0, 1) := by decide +kernel
theorem dX10_readLineOf_68 : decode cX10_readLineOf 68 = .ok (.invokevirtual 182, 3) := by decide +kernel
theorem dX10_readLineOf_71 : decode cX10_readLineOf 71 = .ok (.istore_n 2, 1) := by decide +kernel
theorem dX10_readLineOf_72 : decode cX10_readLineOf 72 = .ok (.aload_n 0, 1) := by decide +kernel
theorem dX10_readLineOf_73 : decode cX10_readLineOf 73 = .ok (.getfield 138, 3) := by decide +kernel
theorem dX10_readLineOf_76 : decode cX10_readLineOf 76 = .ok (.ifCond .ne 22, 3) := by decide +kernel
theorem dX10_readLineOf_79 : decode cX10_readLineOf 79 = .ok (.aload_n 0, 1) := by decide +kernel
theorem dX10_readLineOf_80 : decode cX10_readLineOf 80 = .ok (.aload_n 0, 1) := by decide +kernel
theorem dX10_readLineOf_81 : decode cX10_readLineOf 81 = .ok (.getfield 29, 3) := by decide +kernel
theorem dX10_readLineOf_84 : decode cX10_readLineOf 84 = .ok (.iload_n 2, 1) := by decide +kernel
theorem dX10_readLineOf_85 : decode cX10_readLineOf 85 = .ok (.iaload, 1) := by decide +kernel
theorem dX10_readLineOf_86 : decode cX10_readLineOf 86 = .ok (.ifCond .ne 7, 3) := by decide +kernel
theorem dX10_readLineOf_89 : decode cX10_readLineOf 89 = .ok (.iconst 1, 1) := by decide +kernel
theorem dX10_readLineOf_90 : decode cX10_readLineOf 90 = .ok (.goto 4, 3) := by decide +kernel
theorem dX10_readLineOf_93 : decode cX10_readLineOf 93 = .ok (.iconst 0, 1) := by decide +kernel
theorem dX10_readLineOf_94 : decode cX10_readLineOf 94 = .ok (.iconst 4, 1) := by decide +kernel
theorem dX10_readLineOf_95 : decode cX10_readLineOf 95 = .ok (.invokevirtual 172, 3) := by decide +kernel
theorem dX10_readLineOf_98 : decode cX10_readLineOf 98 = .ok (.aload_n 0, 1) := by decide +kernel
theorem dX10_readLineOf_99 : decode cX10_readLineOf 99 = .ok (.invokevirtual 179, 3) := by decide +kernel
theorem dX10_readLineOf_102 : decode cX10_readLineOf 102 = .ok (.aload_n 0, 1) := by decide +kernel
theorem dX10_readLineOf_103 : decode cX10_readLineOf 103 = .ok (.iconst 1, 1) := by decide +kernel
theorem dX10_readLineOf_104 : decode cX10_readLineOf 104 = .ok (.bipush 9, 2) := by decide +kernel
theorem dX10_readLineOf_106 : decode cX10_readLineOf 106 = .ok (.invokevirtual 186, 3) := by decide +kernel
theorem dX10_readLineOf_109 : decode cX10_readLineOf 109 = .ok (.istore_n 3, 1) := by decide +kernel
theorem dX10_readLineOf_110 : decode cX10_readLineOf 110 = .ok (.aload_n 0, 1) := by decide +kernel
theorem dX10_readLineOf_111 : decode cX10_readLineOf 111 = .ok (.getfield 29, 3) := by decide +kernel
theorem dX10_readLineOf_114 : decode cX10_readLineOf 114 = .ok (.iload_n 2, 1) := by decide +kernel
theorem dX10_readLineOf_115 : decode cX10_readLineOf 115 = .ok (.aload_n 0, 1) := by decide +kernel
theorem dX10_readLineOf_116 : decode cX10_readLineOf 116 = .ok (.getfield 138, 3) := by decide +kernel
theorem dX10_readLineOf_119 : decode cX10_readLineOf 119 = .ok (.ifCond .ne 7, 3) := by decide +kernel
theorem dX10_readLineOf_122 : decode cX10_readLineOf 122 = .ok (.iload_n 3, 1) := by decide +kernel
theorem dX10_readLineOf_123 : decode cX10_readLineOf 123 = .ok (.goto 9, 3) := by decide +kernel
theorem dX10_readLineOf_126 : decode cX10_readLineOf 126 = .ok (.aload_n 0, 1) := by decide +kernel
theorem dX10_readLineOf_127 : decode cX10_readLineOf 127 = .ok (.getfield 29, 3) := by decide +kernel
theorem dX10_readLineOf_130 : decode cX10_readLineOf 130 = .ok (.iload_n 2, 1) := by decide +kernel
theorem dX10_readLineOf_131 : decode cX10_readLineOf 131 = .ok (.iaload, 1) := by decide +kernel
theorem dX10_readLineOf_132 : decode cX10_readLineOf 132 = .ok (.iastore, 1) := by decide +kernel
theorem dX10_readLineOf_133 : decode cX10_readLineOf 133 = .ok (.goto 62, 3) := by decide +kernel
theorem dX10_readLineOf_136 : decode cX10_readLineOf 136 = .ok (.aload_n 0, 1) := by decide +kernel
theorem dX10_readLineOf_137 : decode cX10_readLineOf 137 = .ok (.invokevirtual 192, 3) := by decide +kernel
theorem dX10_readLineOf_140 : decode cX10_readLineOf 140 = .ok (.goto 55, 3) := by decide +kernel
theorem dX10_readLineOf_143 : decode cX10_readLineOf 143 = .ok (.aload_n 0, 1) := by decide +kernel
theorem dX10_readLineOf_144 : decode cX10_readLineOf 144 = .ok (.iconst 1, 1) := by decide +kernel
theorem dX10_readLineOf_145 : decode cX10_readLineOf 145 = .ok (.iconst 3, 1) := by decide +kernel
theorem dX10_readLineOf_146 : decode cX10_readLineOf 146 = .ok (.invokevirtual 176, 3) := by decide +kernel
theorem dX10_readLineOf_149 : decode cX10_readLineOf 149 = .ok (.istore_n 2, 1) := by decide +kernel
theorem dX10_readLineOf_150 : decode cX10_readLineOf 150 = .ok (.aload_n 0, 1) := by decide +kernel
theorem dX10_readLineOf_151 : decode cX10_readLineOf 151 = .ok (.getfield 138, 3) := by decide +kernel
theorem dX10_readLineOf_154 : decode cX10_readLineOf 154 = .ok (.ifCond .ne 24, 3) := by decide +kernel
theorem dX10_readLineOf_157 : decode cX10_readLineOf 157 = .ok (.aload_n 0, 1) := by decide +kernel
theorem dX10_readLineOf_158 : decode cX10_readLineOf 158 = .ok (.aload_n 0, 1) := by decide +kernel
theorem dX10_readLineOf_159 : decode cX10_readLineOf 159 = .ok (.getfield 32, 3) := by decide +kernel
theorem dX10_readLineOf_162 : decode cX10_readLineOf 162 = .ok (.iload_n 2, 1) := by decide +kernel
theorem dX10_readLineOf_163 : decode cX10_readLineOf 163 = .ok (.iaload, 1) := by decide +kernel
theorem dX10_readLineOf_164 : decode cX10_readLineOf 164 = .ok (.bipush (-4), 2) := by decide +kernel
theorem dX10_readLineOf_166 : decode cX10_readLineOf 166 = .ok (.if_icmp .ne 7, 3) := by decide +kernel
theorem dX10_readLineOf_169 : decode cX10_readLineOf 169 = .ok (.iconst 1, 1) := by decide +kernel
theorem dX10_readLineOf_170 : decode cX10_readLineOf 170 = .ok (.goto 4, 3) := by decide +kernel
theorem dX10_readLineOf_173 : decode cX10_readLineOf 173 = .ok (.iconst 0, 1) := by decide +kernel
theorem dX10_readLineOf_174 : decode cX10_readLineOf 174 = .ok (.iconst 4, 1) := by decide +kernel
theorem dX10_readLineOf_175 : decode cX10_readLineOf 175 = .ok (.invokevirtual 172, 3) := by decide +kernel
theorem dX10_readLineOf_178 : decode cX10_readLineOf 178 = .ok (.aload_n 0, 1) := by decide +kernel
theorem dX10_readLineOf_179 : decode cX10_readLineOf 179 = .ok (.invokevirtual 179, 3) := by decide +kernel
theorem dX10_readLineOf_182 : decode cX10_readLineOf 182 = .ok (.aload_n 0, 1) := by decide +kernel
theorem dX10_readLineOf_183 : decode cX10_readLineOf 183 = .ok (.getfield 32, 3) := by decide +kernel
theorem dX10_readLineOf_186 : decode cX10_readLineOf 186 = .ok (.iload_n 2, 1) := by decide +kernel
theorem dX10_readLineOf_187 : decode cX10_readLineOf 187 = .ok (.aload_n 0, 1) := by decide +kernel
theorem dX10_readLineOf_188 : decode cX10_readLineOf 188 = .ok (.iconst 0, 1) := by decide +kernel
theorem dX10_readLineOf_189 : decode cX10_readLineOf 189 = .ok (.bipush 12, 2) := by decide +kernel
theorem dX10_readLineOf_191 : decode cX10_readLineOf 191 = .ok (.invokevirtual 186, 3) := by decide +kernel
theorem dX10_readLineOf_194 : decode cX10_readLineOf 194 = .ok (.iastore, 1) := by decide +kernel
theorem dX10_readLineOf_195 : decode cX10_readLineOf 195 = .ok (.return_, 1) := by decide +kernel
theorem dX10_readLine_0 : decode cX10_readLine 0 = .ok (.aload_n 0, 1) := by decide +kernel
theorem dX10_readLine_1 : decode cX10_readLine 1 = .ok (.getfield 158, 3) := by decide +kernel
theorem dX10_readLine_4 : decode cX10_readLine 4 = .ok (.iconst 1, 1) := by decide +kernel
theorem dX10_readLine_5 : decode cX10_readLine 5 = .ok (.if_icmp .ne 10, 3) := by decide +kernel
theorem dX10_readLine_8 : decode cX10_readLine 8 = .ok (.aload_n 0, 1) := by decide +kernel
theorem dX10_readLine_9 : decode cX10_readLine 9 = .ok (.invokevirtual 195, 3) := by decide +kernel
theorem dX10_readLine_12 : decode cX10_readLine 12 = .ok (.goto 5, 3) := by decide +kernel
theorem dX10_readLine_15 : decode cX10_readLine 15 = .ok (.bipush (-4), 2) := by decide +kernel
theorem dX10_readLine_17 : decode cX10_readLine 17 = .ok (.istore_n 1, 1) := by decide +kernel
theorem dX10_readLine_18 : decode cX10_readLine 18 = .ok (.aload_n 0, 1) := by decide +kernel
theorem dX10_readLine_19 : decode cX10_readLine 19 = .ok (.iload_n 1, 1) := by decide +kernel
theorem dX10_readLine_20 : decode cX10_readLine 20 = .ok (.bipush (-4), 2) := by decide +kernel
theorem dX10_readLine_22 : decode cX10_readLine 22 = .ok (.if_icmp .eq 7, 3) := by decide +kernel
theorem dX10_readLine_25 : decode cX10_readLine 25 = .ok (.iconst 1, 1) := by decide +kernel
theorem dX10_readLine_26 : decode cX10_readLine 26 = .ok (.goto 4, 3) := by decide +kernel
theorem dX10_readLine_29 : decode cX10_readLine 29 = .ok (.iconst 0, 1) := by decide +kernel
theorem dX10_readLine_30 : decode cX10_readLine 30 = .ok (.iconst 2, 1) := by decide +kernel
theorem dX10_readLine_31 : decode cX10_readLine 31 = .ok (.invokevirtual 172, 3) := by decide +kernel
theorem dX10_readLine_34 : decode cX10_readLine 34 = .ok (.aload_n 0, 1) := by decide +kernel
theorem dX10_readLine_35 : decode cX10_readLine 35 = .ok (.iload_n 1, 1) := by decide +kernel
theorem dX10_readLine_36 : decode cX10_readLine 36 = .ok (.ifCond .ne 10, 3) := by decide +kernel
theorem dX10_readLine_39 : decode cX10_readLine 39 = .ok (.aload_n 0, 1) := by decide +kernel
theorem dX10_readLine_40 : decode cX10_readLine 40 = .ok (.getfield 96, 3) := by decide +kernel
theorem dX10_readLine_43 : decode cX10_readLine 43 = .ok (.ifCond .ne 7, 3) := by decide +kernel
theorem dX10_readLine_46 : decode cX10_readLine 46 = .ok (.iconst 1, 1) := by decide +kernel
theorem dX10_readLine_47 : decode cX10_readLine 47 = .ok (.goto 4, 3) := by decide +kernel
theorem dX10_readLine_50 : decode cX10_readLine 50 = .ok (.iconst 0, 1) := by decide +kernel
theorem dX10_readLine_51 : decode cX10_readLine 51 = .ok (.iconst 4, 1) := by decide +kernel
theorem dX10_readLine_52 : decode cX10_readLine 52 = .ok (.invokevirtual 172, 3) := by decide +kernel
theorem dX10_readLine_55 : decode cX10_readLine 55 = .ok (.aload_n 0, 1) := by decide +kernel
theorem dX10_readLine_56 : decode cX10_readLine 56 = .ok (.invokevirtual 179, 3) := by decide +kernel
theorem dX10_readLine_59 : decode cX10_readLine 59 = .ok (.aload_n 0, 1) := by decide +kernel
theorem dX10_readLine_60 : decode cX10_readLine 60 = .ok (.getfield 138, 3) := by decide +kernel
theorem dX10_readLine_63 : decode cX10_readLine 63 = .ok (.ifCond .le 4, 3) := by decide +kernel
theorem dX10_readLine_66 : decode cX10_readLine 66 = .ok (.return_, 1) := by decide +kernel
theorem dX10_readLine_67 : decode cX10_readLine 67 = .ok (.aload_n 0, 1) := by decide +kernel
theorem dX10_readLine_68 : decode cX10_readLine 68 = .ok (.iload_n 1, 1) := by decide +kernel
theorem dX10_readLine_69 : decode cX10_readLine 69 = .ok (.invokevirtual 198, 3) := by decide +kernel
theorem dX10_readLine_72 : decode cX10_readLine 72 = .ok (.aload_n 0, 1) := by decide +kernel
theorem dX10_readLine_73 : decode cX10_readLine 73 = .ok (.getfield 138, 3) := by decide +kernel
theorem dX10_readLine_76 : decode cX10_readLine 76 = .ok (.ifCond .ne 21, 3) := by decide +kernel
theorem dX10_readLine_79 : decode cX10_readLine 79 = .ok (.aload_n 0, 1) := by decide +kernel
theorem dX10_readLine_80 : decode cX10_readLine 80 = .ok (.aload_n 0, 1) := by decide +kernel
theorem dX10_readLine_81 : decode cX10_readLine 81 = .ok (.getfield 158, 3) := by decide +kernel
theorem dX10_readLine_84 : decode cX10_readLine 84 = .ok (.iconst 3, 1) := by decide +kernel
theorem dX10_readLine_85 : decode cX10_readLine 85 = .ok (.if_icmp .ne 7, 3) := by decide +kernel
theorem dX10_readLine_88 : decode cX10_readLine 88 = .ok (.iconst 1, 1) := by decide +kernel
theorem dX10_readLine_89 : decode cX10_readLine 89 = .ok (.goto 4, 3) := by decide +kernel
theorem dX10_readLine_92 : decode cX10_readLine 92 = .ok (.iconst 0, 1) := by decide +kernel
theorem dX10_readLine_93 : decode cX10_readLine 93 = .ok (.iconst 2, 1) := by decide +kernel
theorem dX10_readLine_94 : decode cX10_readLine 94 = .ok (.invokevirtual 172, 3) := by decide +kernel
theorem dX10_readLine_97 : decode cX10_readLine 97 = .ok (.aload_n 0, 1) := by decide +kernel
theorem dX10_readLine_98 : decode cX10_readLine 98 = .ok (.invokevirtual 179, 3) := by decide +kernel
theorem dX10_readLine_101 : decode cX10_readLine 101 = .ok (.return_, 1) := by decide +kernel
theorem dX10_text_0 : decode cX10_text 0 = .ok (.iconst 0, 1) := by decide +kernel
theorem dX10_text_1 : decode cX10_text 1 = .ok (.istore_n 1, 1) := by decide +kernel
theorem dX10_text_2 : decode cX10_text 2 = .ok (.aload_n 0, 1) := by decide +kernel
theorem dX10_text_3 : decode cX10_text 3 = .ok (.iconst 0, 1) := by decide +kernel
theorem dX10_text_4 : decode cX10_text 4 = .ok (.putfield 138, 3) := by decide +kernel
theorem dX10_text_7 : decode cX10_text 7 = .ok (.aload_n 0, 1) := by decide +kernel
theorem dX10_text_8 : decode cX10_text 8 = .ok (.iconst 0, 1) := by decide +kernel
theorem dX10_text_9 : decode cX10_text 9 = .ok (.putfield 147, 3) := by decide +kernel
theorem dX10_text_12 : decode cX10_text 12 = .ok (.aload_n 0, 1) := by decide +kernel
theorem dX10_text_13 : decode cX10_text 13 = .ok (.invokevirtual 77, 3) := by decide +kernel
theorem dX10_text_16 : decode cX10_text 16 = .ok (.aload_n 0, 1) := by decide +kernel
theorem dX10_text_17 : decode cX10_text 17 = .ok (.invokevirtual 179, 3) := by decide +kernel
theorem dX10_text_20 : decode cX10_text 20 = .ok (.aload_n 0, 1) := by decide +kernel
theorem dX10_text_21 : decode cX10_text 21 = .ok (.getfield 138, 3) := by decide +kernel
theorem dX10_text_24 : decode cX10_text 24 = .ok (.ifCond .ne 20, 3) := by decide +kernel
theorem dX10_text_27 : decode cX10_text 27 = .ok (.aload_n 0, 1) := by decide +kernel
theorem dX10_text_28 : decode cX10_text 28 = .ok (.getfield 158, 3) := by decide +kernel
theorem dX10_text_31 : decode cX10_text 31 = .ok (.ifCond .eq 13, 3) := by decide +kernel
theorem dX10_text_34 : decode cX10_text 34 = .ok (.aload_n 0, 1) := by decide +kernel
theorem dX10_text_35 : decode cX10_text 35 = .ok (.invokevirtual 202, 3) := by decide +kernel
theorem dX10_text_38 : decode cX10_text 38 = .ok (.iinc 1 1, 3) := by decide +kernel
theorem dX10_text_41 : decode cX10_text 41 = .ok (.goto (-21), 3) := by decide +kernel
theorem dX10_text_44 : decode cX10_text 44 = .ok (.aload_n 0, 1) := by decide +kernel
theorem dX10_text_45 : decode cX10_text 45 = .ok (.getfield 138, 3) := by decide +kernel
theorem dX10_text_48 : decode cX10_text 48 = .ok (.ifCond .ne 43, 3) := by decide +kernel
theorem dX10_text_51 : decode cX10_text 51 = .ok (.aload_n 0, 1) := by decide +kernel
theorem dX10_text_52 : decode cX10_text 52 = .ok (.aload_n 0, 1) := by decide +kernel
theorem dX10_text_53 : decode cX10_text 53 = .ok (.getfield 100, 3) := by decide +kernel
theorem dX10_text_56 : decode cX10_text 56 = .ok (.aload_n 0, 1) := by decide +kernel
theorem dX10_text_57 : decode cX10_text 57 = .ok (.getfield 83, 3) := by decide +kernel
theorem dX10_text_60 : decode cX10_text 60 = .ok (.aload_n 0, 1) := by decide +kernel
theorem dX10_text_61 : decode cX10_text 61 = .ok (.getfield 87, 3) := by decide +kernel
theorem dX10_text_64 : decode cX10_text 64 = .ok (.iconst 1, 1) := by decide +kernel
theorem dX10_text_65 : decode cX10_text 65 = .ok (.iadd, 1) := by decide +kernel
theorem dX10_text_66 : decode cX10_text 66 = .ok (.imul, 1) := by decide +kernel
theorem dX10_text_67 : decode cX10_text 67 = .ok (.aload_n 0, 1) := by decide +kernel
theorem dX10_text_68 : decode cX10_text 68 = .ok (.getfield 87, 3) := by decide +kernel
theorem dX10_text_71 : decode cX10_text 71 = .ok (.aload_n 0, 1) := by decide +kernel
theorem dX10_text_72 : decode cX10_text 72 = .ok (.getfield 83, 3) := by decide +kernel
theorem dX10_text_75 : decode cX10_text 75 = .ok (.iconst 1, 1) := by decide +kernel
theorem dX10_text_76 : decode cX10_text 76 = .ok (.iadd, 1) := by decide +kernel
theorem dX10_text_77 : decode cX10_text 77 = .ok (.imul, 1) := by decide +kernel
theorem dX10_text_78 : decode cX10_text 78 = .ok (.iadd, 1) := by decide +kernel
theorem dX10_text_79 : decode cX10_text 79 = .ok (.if_icmp .ge 7, 3) := by decide +kernel
theorem dX10_text_82 : decode cX10_text 82 = .ok (.iconst 1, 1) := by decide +kernel
theorem dX10_text_83 : decode cX10_text 83 = .ok (.goto 4, 3) := by decide +kernel
theorem dX10_text_86 : decode cX10_text 86 = .ok (.iconst 0, 1) := by decide +kernel
theorem dX10_text_87 : decode cX10_text 87 = .ok (.iconst 5, 1) := by decide +kernel
theorem dX10_text_88 : decode cX10_text 88 = .ok (.invokevirtual 172, 3) := by decide +kernel
theorem dX10_text_91 : decode cX10_text 91 = .ok (.aload_n 0, 1) := by decide +kernel
theorem dX10_text_92 : decode cX10_text 92 = .ok (.iconst 0, 1) := by decide +kernel
theorem dX10_text_93 : decode cX10_text 93 = .ok (.putfield 129, 3) := by decide +kernel
theorem dX10_text_96 : decode cX10_text 96 = .ok (.aload_n 0, 1) := by decide +kernel
theorem dX10_text_97 : decode cX10_text 97 = .ok (.getfield 138, 3) := by decide +kernel
theorem dX10_text_100 : decode cX10_text 100 = .ok (.ifCond .le 11, 3) := by decide +kernel
theorem dX10_text_103 : decode cX10_text 103 = .ok (.bipush (-10), 2) := by decide +kernel
theorem dX10_text_105 : decode cX10_text 105 = .ok (.aload_n 0, 1) := by decide +kernel
theorem dX10_text_106 : decode cX10_text 106 = .ok (.getfield 144, 3) := by decide +kernel
theorem dX10_text_109 : decode cX10_text 109 = .ok (.isub, 1) := by decide +kernel
theorem dX10_text_110 : decode cX10_text 110 = .ok (.ireturn, 1) := by decide +kernel
theorem dX10_text_111 : decode cX10_text 111 = .ok (.aload_n 0, 1) := by decide +kernel
theorem dX10_text_112 : decode cX10_text 112 = .ok (.invokevirtual 80, 3) := by decide +kernel
theorem dX10_text_115 : decode cX10_text 115 = .ok (.iload_n 1, 1) := by decide +kernel
theorem dX10_text_116 : decode cX10_text 116 = .ok (.ireturn, 1) := by decide +kernel
theorem dX10_fault_0 : decode cX10_fault 0 = .ok (.aload_n 0, 1) := by decide +kernel
theorem dX10_fault_1 : decode cX10_fault 1 = .ok (.getfield 138, 3) := by decide +kernel
theorem dX10_fault_4 : decode cX10_fault 4 = .ok (.ireturn, 1) := by decide +kernel
theorem dX10_isMatch_0 : decode cX10_isMatch 0 = .ok (.iload_n 1, 1) := by decide +kernel
theorem dX10_isMatch_1 : decode cX10_isMatch 1 = .ok (.i2l, 1) := by decide +kernel
theorem dX10_isMatch_2 : decode cX10_isMatch 2 = .ok (.lconst 0, 1) := by decide +kernel
theorem dX10_isMatch_3 : decode cX10_isMatch 3 = .ok (.aload_n 0, 1) := by decide +kernel
theorem dX10_isMatch_4 : decode cX10_isMatch 4 = .ok (.getfield 123, 3) := by decide +kernel
theorem dX10_isMatch_7 : decode cX10_isMatch 7 = .ok (.iconst 1, 1) := by decide +kernel
theorem dX10_isMatch_8 : decode cX10_isMatch 8 = .ok (.isub, 1) := by decide +kernel
theorem dX10_isMatch_9 : decode cX10_isMatch 9 = .ok (.i2l, 1) := by decide +kernel
theorem dX10_isMatch_10 : decode cX10_isMatch 10 = .ok (.invokestatic 134, 3) := by decide +kernel
theorem dX10_isMatch_13 : decode cX10_isMatch 13 = .ok (.ireturn, 1) := by decide +kernel
theorem dX10_doesLie_0 : decode cX10_doesLie 0 = .ok (.aload_n 0, 1) := by decide +kernel
theorem dX10_doesLie_1 : decode cX10_doesLie 1 = .ok (.getfield 7, 3) := by decide +kernel
theorem dX10_doesLie_4 : decode cX10_doesLie 4 = .ok (.iconst 0, 1) := by decide +kernel
theorem dX10_doesLie_5 : decode cX10_doesLie 5 = .ok (.iaload, 1) := by decide +kernel
theorem dX10_doesLie_6 : decode cX10_doesLie 6 = .ok (.iload_n 1, 1) := by decide +kernel
theorem dX10_doesLie_7 : decode cX10_doesLie 7 = .ok (.ishr, 1) := by decide +kernel
theorem dX10_doesLie_8 : decode cX10_doesLie 8 = .ok (.iconst 1, 1) := by decide +kernel
theorem dX10_doesLie_9 : decode cX10_doesLie 9 = .ok (.iand, 1) := by decide +kernel
theorem dX10_doesLie_10 : decode cX10_doesLie 10 = .ok (.iconst 1, 1) := by decide +kernel
theorem dX10_doesLie_11 : decode cX10_doesLie 11 = .ok (.if_icmp .ne 7, 3) := by decide +kernel
theorem dX10_doesLie_14 : decode cX10_doesLie 14 = .ok (.iconst 1, 1) := by decide +kernel
theorem dX10_doesLie_15 : decode cX10_doesLie 15 = .ok (.goto 4, 3) := by decide +kernel
theorem dX10_doesLie_18 : decode cX10_doesLie 18 = .ok (.iconst 0, 1) := by decide +kernel
theorem dX10_doesLie_19 : decode cX10_doesLie 19 = .ok (.ireturn, 1) := by decide +kernel
theorem dX10_doesCount_0 : decode cX10_doesCount 0 = .ok (.aload_n 0, 1) := by decide +kernel
theorem dX10_doesCount_1 : decode cX10_doesCount 1 = .ok (.getfield 7, 3) := by decide +kernel
theorem dX10_doesCount_4 : decode cX10_doesCount 4 = .ok (.bipush 32, 2) := by decide +kernel
theorem dX10_doesCount_6 : decode cX10_doesCount 6 = .ok (.iaload, 1) := by decide +kernel
theorem dX10_doesCount_7 : decode cX10_doesCount 7 = .ok (.aload_n 0, 1) := by decide +kernel
theorem dX10_doesCount_8 : decode cX10_doesCount 8 = .ok (.getfield 17, 3) := by decide +kernel
theorem dX10_doesCount_11 : decode cX10_doesCount 11 = .ok (.iload_n 1, 1) := by decide +kernel
theorem dX10_doesCount_12 : decode cX10_doesCount 12 = .ok (.iaload, 1) := by decide +kernel
theorem dX10_doesCount_13 : decode cX10_doesCount 13 = .ok (.ishr, 1) := by decide +kernel
theorem dX10_doesCount_14 : decode cX10_doesCount 14 = .ok (.iconst 1, 1) := by decide +kernel
theorem dX10_doesCount_15 : decode cX10_doesCount 15 = .ok (.iand, 1) := by decide +kernel
theorem dX10_doesCount_16 : decode cX10_doesCount 16 = .ok (.iconst 1, 1) := by decide +kernel
theorem dX10_doesCount_17 : decode cX10_doesCount 17 = .ok (.if_icmp .ne 7, 3) := by decide +kernel
theorem dX10_doesCount_20 : decode cX10_doesCount 20 = .ok (.iconst 1, 1) := by decide +kernel
theorem dX10_doesCount_21 : decode cX10_doesCount 21 = .ok (.goto 4, 3) := by decide +kernel
theorem dX10_doesCount_24 : decode cX10_doesCount 24 = .ok (.iconst 0, 1) := by decide +kernel
theorem dX10_doesCount_25 : decode cX10_doesCount 25 = .ok (.ireturn, 1) := by decide +kernel
theorem dX10_leftOf_0 : decode cX10_leftOf 0 = .ok (.iconst 0, 1) := by decide +kernel
theorem dX10_leftOf_1 : decode cX10_leftOf 1 = .ok (.istore_n 2, 1) := by decide +kernel
theorem dX10_leftOf_2 : decode cX10_leftOf 2 = .ok (.iconst 0, 1) := by decide +kernel
theorem dX10_leftOf_3 : decode cX10_leftOf 3 = .ok (.istore_n 3, 1) := by decide +kernel
theorem dX10_leftOf_4 : decode cX10_leftOf 4 = .ok (.iload_n 3, 1) := by decide +kernel
theorem dX10_leftOf_5 : decode cX10_leftOf 5 = .ok (.aload_n 0, 1) := by decide +kernel
theorem dX10_leftOf_6 : decode cX10_leftOf 6 = .ok (.getfield 116, 3) := by decide +kernel
theorem dX10_leftOf_9 : decode cX10_leftOf 9 = .ok (.if_icmp .ge 41, 3) := by decide +kernel
theorem dX10_leftOf_12 : decode cX10_leftOf 12 = .ok (.iload_n 2, 1) := by decide +kernel
theorem dX10_leftOf_13 : decode cX10_leftOf 13 = .ok (.aload_n 0, 1) := by decide +kernel
theorem dX10_leftOf_14 : decode cX10_leftOf 14 = .ok (.iload_n 3, 1) := by decide +kernel
theorem dX10_leftOf_15 : decode cX10_leftOf 15 = .ok (.invokevirtual 205, 3) := by decide +kernel
theorem dX10_leftOf_18 : decode cX10_leftOf 18 = .ok (.ifCond .eq 20, 3) := by decide +kernel
theorem dX10_leftOf_21 : decode cX10_leftOf 21 = .ok (.aload_n 0, 1) := by decide +kernel
theorem dX10_leftOf_22 : decode cX10_leftOf 22 = .ok (.getfield 26, 3) := by decide +kernel
theorem dX10_leftOf_25 : decode cX10_leftOf 25 = .ok (.iload_n 3, 1) := by decide +kernel
theorem dX10_leftOf_26 : decode cX10_leftOf 26 = .ok (.iaload, 1) := by decide +kernel
theorem dX10_leftOf_27 : decode cX10_leftOf 27 = .ok (.iload_n 1, 1) := by decide +kernel
theorem dX10_leftOf_28 : decode cX10_leftOf 28 = .ok (.iconst (-1), 1) := by decide +kernel
theorem dX10_leftOf_29 : decode cX10_leftOf 29 = .ok (.ixor, 1) := by decide +kernel
theorem dX10_leftOf_30 : decode cX10_leftOf 30 = .ok (.iand, 1) := by decide +kernel
theorem dX10_leftOf_31 : decode cX10_leftOf 31 = .ok (.ifCond .ne 7, 3) := by decide +kernel
theorem dX10_leftOf_34 : decode cX10_leftOf 34 = .ok (.iconst 1, 1) := by decide +kernel
theorem dX10_leftOf_35 : decode cX10_leftOf 35 = .ok (.goto 4, 3) := by decide +kernel
theorem dX10_leftOf_38 : decode cX10_leftOf 38 = .ok (.iconst 0, 1) := by decide +kernel
theorem dX10_leftOf_39 : decode cX10_leftOf 39 = .ok (.invokestatic 209, 3) := by decide +kernel
theorem dX10_leftOf_42 : decode cX10_leftOf 42 = .ok (.iadd, 1) := by decide +kernel
theorem dX10_leftOf_43 : decode cX10_leftOf 43 = .ok (.istore_n 2, 1) := by decide +kernel
theorem dX10_leftOf_44 : decode cX10_leftOf 44 = .ok (.iinc 3 1, 3) := by decide +kernel
theorem dX10_leftOf_47 : decode cX10_leftOf 47 = .ok (.goto (-43), 3) := by decide +kernel
theorem dX10_leftOf_50 : decode cX10_leftOf 50 = .ok (.iload_n 2, 1) := by decide +kernel
theorem dX10_leftOf_51 : decode cX10_leftOf 51 = .ok (.ireturn, 1) := by decide +kernel
theorem dX10_wholeOf_0 : decode cX10_wholeOf 0 = .ok (.iconst 0, 1) := by decide +kernel
theorem dX10_wholeOf_1 : decode cX10_wholeOf 1 = .ok (.istore_n 3, 1) := by decide +kernel
theorem dX10_wholeOf_2 : decode cX10_wholeOf 2 = .ok (.iconst 0, 1) := by decide +kernel
theorem dX10_wholeOf_3 : decode cX10_wholeOf 3 = .ok (.istore 4, 2) := by decide +kernel
theorem dX10_wholeOf_5 : decode cX10_wholeOf 5 = .ok (.iload 4, 2) := by decide +kernel
theorem dX10_wholeOf_7 : decode cX10_wholeOf 7 = .ok (.aload_n 0, 1) := by decide +kernel
theorem dX10_wholeOf_8 : decode cX10_wholeOf 8 = .ok (.getfield 116, 3) := by decide +kernel
theorem dX10_wholeOf_11 : decode cX10_wholeOf 11 = .ok (.if_icmp .ge 45, 3) := by decide +kernel
theorem dX10_wholeOf_14 : decode cX10_wholeOf 14 = .ok (.iload_n 3, 1) := by decide +kernel
theorem dX10_wholeOf_15 : decode cX10_wholeOf 15 = .ok (.aload_n 0, 1) := by decide +kernel
theorem dX10_wholeOf_16 : decode cX10_wholeOf 16 = .ok (.getfield 17, 3) := by decide +kernel
theorem dX10_wholeOf_19 : decode cX10_wholeOf 19 = .ok (.iload 4, 2) := by decide +kernel
theorem dX10_wholeOf_21 : decode cX10_wholeOf 21 = .ok (.iaload, 1) := by decide +kernel
theorem dX10_wholeOf_22 : decode cX10_wholeOf 22 = .ok (.iload_n 1, 1) := by decide +kernel
theorem dX10_wholeOf_23 : decode cX10_wholeOf 23 = .ok (.if_icmp .ne 21, 3) := by decide +kernel
theorem dX10_wholeOf_26 : decode cX10_wholeOf 26 = .ok (.aload_n 0, 1) := by decide +kernel
theorem dX10_wholeOf_27 : decode cX10_wholeOf 27 = .ok (.getfield 26, 3) := by decide +kernel
theorem dX10_wholeOf_30 : decode cX10_wholeOf 30 = .ok (.iload 4, 2) := by decide +kernel
theorem dX10_wholeOf_32 : decode cX10_wholeOf 32 = .ok (.iaload, 1) := by decide +kernel
theorem dX10_wholeOf_33 : decode cX10_wholeOf 33 = .ok (.iload_n 2, 1) := by decide +kernel
theorem dX10_wholeOf_34 : decode cX10_wholeOf 34 = .ok (.iconst (-1), 1) := by decide +kernel
theorem dX10_wholeOf_35 : decode cX10_wholeOf 35 = .ok (.ixor, 1) := by decide +kernel
theorem dX10_wholeOf_36 : decode cX10_wholeOf 36 = .ok (.iand, 1) := by decide +kernel
theorem dX10_wholeOf_37 : decode cX10_wholeOf 37 = .ok (.ifCond .ne 7, 3) := by decide +kernel
theorem dX10_wholeOf_40 : decode cX10_wholeOf 40 = .ok (.iconst 1, 1) := by decide +kernel
theorem dX10_wholeOf_41 : decode cX10_wholeOf 41 = .ok (.goto 4, 3) := by decide +kernel
theorem dX10_wholeOf_44 : decode cX10_wholeOf 44 = .ok (.iconst 0, 1) := by decide +kernel
theorem dX10_wholeOf_45 : decode cX10_wholeOf 45 = .ok (.invokestatic 209, 3) := by decide +kernel
theorem dX10_wholeOf_48 : decode cX10_wholeOf 48 = .ok (.iadd, 1) := by decide +kernel
theorem dX10_wholeOf_49 : decode cX10_wholeOf 49 = .ok (.istore_n 3, 1) := by decide +kernel
theorem dX10_wholeOf_50 : decode cX10_wholeOf 50 = .ok (.iinc 4 1, 3) := by decide +kernel
theorem dX10_wholeOf_53 : decode cX10_wholeOf 53 = .ok (.goto (-48), 3) := by decide +kernel
theorem dX10_wholeOf_56 : decode cX10_wholeOf 56 = .ok (.iload_n 3, 1) := by decide +kernel
theorem dX10_wholeOf_57 : decode cX10_wholeOf 57 = .ok (.ireturn, 1) := by decide +kernel
theorem dX10_rule_0 : decode cX10_rule 0 = .ok (.iload_n 1, 1) := by decide +kernel
theorem dX10_rule_1 : decode cX10_rule 1 = .ok (.tableswitch 74 0 5 #[39, 44, 49, 54, 59, 66], 39) := by decide +kernel
theorem dX10_rule_40 : decode cX10_rule 40 = .ok (.aload_n 0, 1) := by decide +kernel
theorem dX10_rule_41 : decode cX10_rule 41 = .ok (.getfield 103, 3) := by decide +kernel
theorem dX10_rule_44 : decode cX10_rule 44 = .ok (.ireturn, 1) := by decide +kernel
theorem dX10_rule_45 : decode cX10_rule 45 = .ok (.aload_n 0, 1) := by decide +kernel
theorem dX10_rule_46 : decode cX10_rule 46 = .ok (.getfield 106, 3) := by decide +kernel
theorem dX10_rule_49 : decode cX10_rule 49 = .ok (.ireturn, 1) := by decide +kernel
theorem dX10_rule_50 : decode cX10_rule 50 = .ok (.aload_n 0, 1) := by decide +kernel
theorem dX10_rule_51 : decode cX10_rule 51 = .ok (.getfield 123, 3) := by decide +kernel
theorem dX10_rule_54 : decode cX10_rule 54 = .ok (.ireturn, 1) := by decide +kernel
theorem dX10_rule_55 : decode cX10_rule 55 = .ok (.aload_n 0, 1) := by decide +kernel
theorem dX10_rule_56 : decode cX10_rule 56 = .ok (.getfield 116, 3) := by decide +kernel
theorem dX10_rule_59 : decode cX10_rule 59 = .ok (.ireturn, 1) := by decide +kernel
theorem dX10_rule_60 : decode cX10_rule 60 = .ok (.aload_n 0, 1) := by decide +kernel
theorem dX10_rule_61 : decode cX10_rule 61 = .ok (.getfield 7, 3) := by decide +kernel
theorem dX10_rule_64 : decode cX10_rule 64 = .ok (.iconst 0, 1) := by decide +kernel
theorem dX10_rule_65 : decode cX10_rule 65 = .ok (.iaload, 1) := by decide +kernel
theorem dX10_rule_66 : decode cX10_rule 66 = .ok (.ireturn, 1) := by decide +kernel
theorem dX10_rule_67 : decode cX10_rule 67 = .ok (.aload_n 0, 1) := by decide +kernel
theorem dX10_rule_68 : decode cX10_rule 68 = .ok (.getfield 7, 3) := by decide +kernel
theorem dX10_rule_71 : decode cX10_rule 71 = .ok (.bipush 32, 2) := by decide +kernel
theorem dX10_rule_73 : decode cX10_rule 73 = .ok (.iaload, 1) := by decide +kernel
theorem dX10_rule_74 : decode cX10_rule 74 = .ok (.ireturn, 1) := by decide +kernel
theorem dX10_rule_75 : decode cX10_rule 75 = .ok (.iconst (-1), 1) := by decide +kernel
theorem dX10_rule_76 : decode cX10_rule 76 = .ok (.ireturn, 1) := by decide +kernel
theorem dX10_square_0 : decode cX10_square 0 = .ok (.iload_n 1, 1) := by decide +kernel
theorem dX10_square_1 : decode cX10_square 1 = .ok (.i2l, 1) := by decide +kernel
theorem dX10_square_2 : decode cX10_square 2 = .ok (.lconst 0, 1) := by decide +kernel
theorem dX10_square_3 : decode cX10_square 3 = .ok (.aload_n 0, 1) := by decide +kernel
theorem dX10_square_4 : decode cX10_square 4 = .ok (.getfield 116, 3) := by decide +kernel
theorem dX10_square_7 : decode cX10_square 7 = .ok (.iconst 1, 1) := by decide +kernel
theorem dX10_square_8 : decode cX10_square 8 = .ok (.isub, 1) := by decide +kernel
theorem dX10_square_9 : decode cX10_square 9 = .ok (.i2l, 1) := by decide +kernel
theorem dX10_square_10 : decode cX10_square 10 = .ok (.invokestatic 134, 3) := by decide +kernel
theorem dX10_square_13 : decode cX10_square 13 = .ok (.ifCond .ne 5, 3) := by decide +kernel
theorem dX10_square_16 : decode cX10_square 16 = .ok (.iconst (-1), 1) := by decide +kernel
theorem dX10_square_17 : decode cX10_square 17 = .ok (.ireturn, 1) := by decide +kernel
theorem dX10_square_18 : decode cX10_square 18 = .ok (.iload_n 2, 1) := by decide +kernel
theorem dX10_square_19 : decode cX10_square 19 = .ok (.tableswitch 88 0 4 #[33, 40, 47, 54, 61], 33) := by decide +kernel
theorem dX10_square_52 : decode cX10_square 52 = .ok (.aload_n 0, 1) := by decide +kernel
theorem dX10_square_53 : decode cX10_square 53 = .ok (.getfield 17, 3) := by decide +kernel
theorem dX10_square_56 : decode cX10_square 56 = .ok (.iload_n 1, 1) := by decide +kernel
theorem dX10_square_57 : decode cX10_square 57 = .ok (.iaload, 1) := by decide +kernel
theorem dX10_square_58 : decode cX10_square 58 = .ok (.ireturn, 1) := by decide +kernel
theorem dX10_square_59 : decode cX10_square 59 = .ok (.aload_n 0, 1) := by decide +kernel
theorem dX10_square_60 : decode cX10_square 60 = .ok (.getfield 20, 3) := by decide +kernel
theorem dX10_square_63 : decode cX10_square 63 = .ok (.iload_n 1, 1) := by decide +kernel
theorem dX10_square_64 : decode cX10_square 64 = .ok (.iaload, 1) := by decide +kernel
theorem dX10_square_65 : decode cX10_square 65 = .ok (.ireturn, 1) := by decide +kernel
theorem dX10_square_66 : decode cX10_square 66 = .ok (.aload_n 0, 1) := by decide +kernel
theorem dX10_square_67 : decode cX10_square 67 = .ok (.getfield 23, 3) := by decide +kernel
theorem dX10_square_70 : decode cX10_square 70 = .ok (.iload_n 1, 1) := by decide +kernel
theorem dX10_square_71 : decode cX10_square 71 = .ok (.iaload, 1) := by decide +kernel
theorem dX10_square_72 : decode cX10_square 72 = .ok (.ireturn, 1) := by decide +kernel
theorem dX10_square_73 : decode cX10_square 73 = .ok (.aload_n 0, 1) := by decide +kernel
theorem dX10_square_74 : decode cX10_square 74 = .ok (.getfield 26, 3) := by decide +kernel
theorem dX10_square_77 : decode cX10_square 77 = .ok (.iload_n 1, 1) := by decide +kernel
theorem dX10_square_78 : decode cX10_square 78 = .ok (.iaload, 1) := by decide +kernel
theorem dX10_square_79 : decode cX10_square 79 = .ok (.ireturn, 1) := by decide +kernel
theorem dX10_square_80 : decode cX10_square 80 = .ok (.aload_n 0, 1) := by decide +kernel
theorem dX10_square_81 : decode cX10_square 81 = .ok (.getfield 26, 3) := by decide +kernel
theorem dX10_square_84 : decode cX10_square 84 = .ok (.iload_n 1, 1) := by decide +kernel
theorem dX10_square_85 : decode cX10_square 85 = .ok (.iaload, 1) := by decide +kernel
theorem dX10_square_86 : decode cX10_square 86 = .ok (.aload_n 0, 1) := by decide +kernel
theorem dX10_square_87 : decode cX10_square 87 = .ok (.getfield 7, 3) := by decide +kernel
theorem dX10_square_90 : decode cX10_square 90 = .ok (.iconst 0, 1) := by decide +kernel
theorem dX10_square_91 : decode cX10_square 91 = .ok (.iaload, 1) := by decide +kernel
theorem dX10_square_92 : decode cX10_square 92 = .ok (.iconst (-1), 1) := by decide +kernel
theorem dX10_square_93 : decode cX10_square 93 = .ok (.ixor, 1) := by decide +kernel
theorem dX10_square_94 : decode cX10_square 94 = .ok (.iand, 1) := by decide +kernel
theorem dX10_square_95 : decode cX10_square 95 = .ok (.ifCond .ne 7, 3) := by decide +kernel
theorem dX10_square_98 : decode cX10_square 98 = .ok (.iconst 1, 1) := by decide +kernel
theorem dX10_square_99 : decode cX10_square 99 = .ok (.goto 4, 3) := by decide +kernel
theorem dX10_square_102 : decode cX10_square 102 = .ok (.iconst 0, 1) := by decide +kernel
theorem dX10_square_103 : decode cX10_square 103 = .ok (.invokestatic 209, 3) := by decide +kernel
theorem dX10_square_106 : decode cX10_square 106 = .ok (.ireturn, 1) := by decide +kernel
theorem dX10_square_107 : decode cX10_square 107 = .ok (.iconst (-1), 1) := by decide +kernel
theorem dX10_square_108 : decode cX10_square 108 = .ok (.ireturn, 1) := by decide +kernel
theorem dX10_cost_0 : decode cX10_cost 0 = .ok (.aload_n 0, 1) := by decide +kernel
theorem dX10_cost_1 : decode cX10_cost 1 = .ok (.iload_n 1, 1) := by decide +kernel
theorem dX10_cost_2 : decode cX10_cost 2 = .ok (.invokevirtual 213, 3) := by decide +kernel
theorem dX10_cost_5 : decode cX10_cost 5 = .ok (.ifCond .eq 14, 3) := by decide +kernel
theorem dX10_cost_8 : decode cX10_cost 8 = .ok (.aload_n 0, 1) := by decide +kernel
theorem dX10_cost_9 : decode cX10_cost 9 = .ok (.getfield 7, 3) := by decide +kernel
theorem dX10_cost_12 : decode cX10_cost 12 = .ok (.iconst 1, 1) := by decide +kernel
theorem dX10_cost_13 : decode cX10_cost 13 = .ok (.iload_n 1, 1) := by decide +kernel
theorem dX10_cost_14 : decode cX10_cost 14 = .ok (.iadd, 1) := by decide +kernel
theorem dX10_cost_15 : decode cX10_cost 15 = .ok (.iaload, 1) := by decide +kernel
theorem dX10_cost_16 : decode cX10_cost 16 = .ok (.goto 4, 3) := by decide +kernel
theorem dX10_cost_19 : decode cX10_cost 19 = .ok (.iconst (-1), 1) := by decide +kernel
theorem dX10_cost_20 : decode cX10_cost 20 = .ok (.ireturn, 1) := by decide +kernel
theorem dX10_whole_0 : decode cX10_whole 0 = .ok (.iload_n 1, 1) := by decide +kernel
theorem dX10_whole_1 : decode cX10_whole 1 = .ok (.i2l, 1) := by decide +kernel
theorem dX10_whole_2 : decode cX10_whole 2 = .ok (.lconst 1, 1) := by decide +kernel
theorem dX10_whole_3 : decode cX10_whole 3 = .ok (.ldc2_w 216, 3) := by decide +kernel
theorem dX10_whole_6 : decode cX10_whole 6 = .ok (.invokestatic 134, 3) := by decide +kernel
theorem dX10_whole_9 : decode cX10_whole 9 = .ok (.ifCond .eq 17, 3) := by decide +kernel
theorem dX10_whole_12 : decode cX10_whole 12 = .ok (.aload_n 0, 1) := by decide +kernel
theorem dX10_whole_13 : decode cX10_whole 13 = .ok (.iload_n 1, 1) := by decide +kernel
theorem dX10_whole_14 : decode cX10_whole 14 = .ok (.aload_n 0, 1) := by decide +kernel
theorem dX10_whole_15 : decode cX10_whole 15 = .ok (.getfield 7, 3) := by decide +kernel
theorem dX10_whole_18 : decode cX10_whole 18 = .ok (.iconst 0, 1) := by decide +kernel
theorem dX10_whole_19 : decode cX10_whole 19 = .ok (.iaload, 1) := by decide +kernel
theorem dX10_whole_20 : decode cX10_whole 20 = .ok (.invokevirtual 218, 3) := by decide +kernel
theorem dX10_whole_23 : decode cX10_whole 23 = .ok (.goto 4, 3) := by decide +kernel
theorem dX10_whole_26 : decode cX10_whole 26 = .ok (.iconst (-1), 1) := by decide +kernel
theorem dX10_whole_27 : decode cX10_whole 27 = .ok (.ireturn, 1) := by decide +kernel
theorem dX10_left_0 : decode cX10_left 0 = .ok (.aload_n 0, 1) := by decide +kernel
theorem dX10_left_1 : decode cX10_left 1 = .ok (.aload_n 0, 1) := by decide +kernel
theorem dX10_left_2 : decode cX10_left 2 = .ok (.getfield 7, 3) := by decide +kernel
theorem dX10_left_5 : decode cX10_left 5 = .ok (.iconst 0, 1) := by decide +kernel
theorem dX10_left_6 : decode cX10_left 6 = .ok (.iaload, 1) := by decide +kernel
theorem dX10_left_7 : decode cX10_left 7 = .ok (.invokevirtual 221, 3) := by decide +kernel
theorem dX10_left_10 : decode cX10_left 10 = .ok (.ireturn, 1) := by decide +kernel
theorem dX10_take_0 : decode cX10_take 0 = .ok (.aload_n 0, 1) := by decide +kernel
theorem dX10_take_1 : decode cX10_take 1 = .ok (.iload_n 1, 1) := by decide +kernel
theorem dX10_take_2 : decode cX10_take 2 = .ok (.invokevirtual 213, 3) := by decide +kernel
theorem dX10_take_5 : decode cX10_take 5 = .ok (.ifCond .ne 5, 3) := by decide +kernel
theorem dX10_take_8 : decode cX10_take 8 = .ok (.iconst (-1), 1) := by decide +kernel
theorem dX10_take_9 : decode cX10_take 9 = .ok (.ireturn, 1) := by decide +kernel
theorem dX10_take_10 : decode cX10_take 10 = .ok (.aload_n 0, 1) := by decide +kernel
theorem dX10_take_11 : decode cX10_take 11 = .ok (.iload_n 1, 1) := by decide +kernel
theorem dX10_take_12 : decode cX10_take 12 = .ok (.invokevirtual 224, 3) := by decide +kernel
theorem dX10_take_15 : decode cX10_take 15 = .ok (.ifCond .ne 6, 3) := by decide +kernel
theorem dX10_take_18 : decode cX10_take 18 = .ok (.bipush (-2), 2) := by decide +kernel
theorem dX10_take_20 : decode cX10_take 20 = .ok (.ireturn, 1) := by decide +kernel
theorem dX10_take_21 : decode cX10_take 21 = .ok (.aload_n 0, 1) := by decide +kernel
theorem dX10_take_22 : decode cX10_take 22 = .ok (.getfield 7, 3) := by decide +kernel
theorem dX10_take_25 : decode cX10_take 25 = .ok (.iconst 0, 1) := by decide +kernel
theorem dX10_take_26 : decode cX10_take 26 = .ok (.dup2, 1) := by decide +kernel
theorem dX10_take_27 : decode cX10_take 27 = .ok (.iaload, 1) := by decide +kernel
theorem dX10_take_28 : decode cX10_take 28 = .ok (.iconst 1, 1) := by decide +kernel
theorem dX10_take_29 : decode cX10_take 29 = .ok (.iload_n 1, 1) := by decide +kernel
theorem dX10_take_30 : decode cX10_take 30 = .ok (.ishl, 1) := by decide +kernel
theorem dX10_take_31 : decode cX10_take 31 = .ok (.iconst (-1), 1) := by decide +kernel
theorem dX10_take_32 : decode cX10_take 32 = .ok (.ixor, 1) := by decide +kernel
theorem dX10_take_33 : decode cX10_take 33 = .ok (.iand, 1) := by decide +kernel
theorem dX10_take_34 : decode cX10_take 34 = .ok (.iastore, 1) := by decide +kernel
theorem dX10_take_35 : decode cX10_take 35 = .ok (.aload_n 0, 1) := by decide +kernel
theorem dX10_take_36 : decode cX10_take 36 = .ok (.aload_n 0, 1) := by decide +kernel
theorem dX10_take_37 : decode cX10_take 37 = .ok (.getfield 7, 3) := by decide +kernel
theorem dX10_take_40 : decode cX10_take 40 = .ok (.iconst 0, 1) := by decide +kernel
theorem dX10_take_41 : decode cX10_take 41 = .ok (.iaload, 1) := by decide +kernel
theorem dX10_take_42 : decode cX10_take 42 = .ok (.invokevirtual 221, 3) := by decide +kernel
theorem dX10_take_45 : decode cX10_take 45 = .ok (.ireturn, 1) := by decide +kernel
theorem dX10_lie_0 : decode cX10_lie 0 = .ok (.aload_n 0, 1) := by decide +kernel
theorem dX10_lie_1 : decode cX10_lie 1 = .ok (.iload_n 1, 1) := by decide +kernel
theorem dX10_lie_2 : decode cX10_lie 2 = .ok (.invokevirtual 213, 3) := by decide +kernel
theorem dX10_lie_5 : decode cX10_lie 5 = .ok (.ifCond .ne 5, 3) := by decide +kernel
theorem dX10_lie_8 : decode cX10_lie 8 = .ok (.iconst (-1), 1) := by decide +kernel
theorem dX10_lie_9 : decode cX10_lie 9 = .ok (.ireturn, 1) := by decide +kernel
theorem dX10_lie_10 : decode cX10_lie 10 = .ok (.aload_n 0, 1) := by decide +kernel
theorem dX10_lie_11 : decode cX10_lie 11 = .ok (.iload_n 1, 1) := by decide +kernel
theorem dX10_lie_12 : decode cX10_lie 12 = .ok (.invokevirtual 224, 3) := by decide +kernel
theorem dX10_lie_15 : decode cX10_lie 15 = .ok (.ifCond .eq 6, 3) := by decide +kernel
theorem dX10_lie_18 : decode cX10_lie 18 = .ok (.bipush (-2), 2) := by decide +kernel
theorem dX10_lie_20 : decode cX10_lie 20 = .ok (.ireturn, 1) := by decide +kernel
theorem dX10_lie_21 : decode cX10_lie 21 = .ok (.aload_n 0, 1) := by decide +kernel
theorem dX10_lie_22 : decode cX10_lie 22 = .ok (.getfield 7, 3) := by decide +kernel
theorem dX10_lie_25 : decode cX10_lie 25 = .ok (.iconst 0, 1) := by decide +kernel
theorem dX10_lie_26 : decode cX10_lie 26 = .ok (.dup2, 1) := by decide +kernel
theorem dX10_lie_27 : decode cX10_lie 27 = .ok (.iaload, 1) := by decide +kernel
theorem dX10_lie_28 : decode cX10_lie 28 = .ok (.iconst 1, 1) := by decide +kernel
theorem dX10_lie_29 : decode cX10_lie 29 = .ok (.iload_n 1, 1) := by decide +kernel
theorem dX10_lie_30 : decode cX10_lie 30 = .ok (.ishl, 1) := by decide +kernel
theorem dX10_lie_31 : decode cX10_lie 31 = .ok (.ior, 1) := by decide +kernel
theorem dX10_lie_32 : decode cX10_lie 32 = .ok (.iastore, 1) := by decide +kernel
theorem dX10_lie_33 : decode cX10_lie 33 = .ok (.aload_n 0, 1) := by decide +kernel
theorem dX10_lie_34 : decode cX10_lie 34 = .ok (.aload_n 0, 1) := by decide +kernel
theorem dX10_lie_35 : decode cX10_lie 35 = .ok (.getfield 7, 3) := by decide +kernel
theorem dX10_lie_38 : decode cX10_lie 38 = .ok (.iconst 0, 1) := by decide +kernel
theorem dX10_lie_39 : decode cX10_lie 39 = .ok (.iaload, 1) := by decide +kernel
theorem dX10_lie_40 : decode cX10_lie 40 = .ok (.invokevirtual 221, 3) := by decide +kernel
theorem dX10_lie_43 : decode cX10_lie 43 = .ok (.ireturn, 1) := by decide +kernel
theorem dX10_price_0 : decode cX10_price 0 = .ok (.aload_n 0, 1) := by decide +kernel
theorem dX10_price_1 : decode cX10_price 1 = .ok (.iload_n 1, 1) := by decide +kernel
theorem dX10_price_2 : decode cX10_price 2 = .ok (.invokevirtual 213, 3) := by decide +kernel
theorem dX10_price_5 : decode cX10_price 5 = .ok (.ifCond .eq 15, 3) := by decide +kernel
theorem dX10_price_8 : decode cX10_price 8 = .ok (.iload_n 2, 1) := by decide +kernel
theorem dX10_price_9 : decode cX10_price 9 = .ok (.i2l, 1) := by decide +kernel
theorem dX10_price_10 : decode cX10_price 10 = .ok (.lconst 1, 1) := by decide +kernel
theorem dX10_price_11 : decode cX10_price 11 = .ok (.ldc2_w 227, 3) := by decide +kernel
theorem dX10_price_14 : decode cX10_price 14 = .ok (.invokestatic 134, 3) := by decide +kernel
theorem dX10_price_17 : decode cX10_price 17 = .ok (.ifCond .ne 5, 3) := by decide +kernel
theorem dX10_price_20 : decode cX10_price 20 = .ok (.iconst (-1), 1) := by decide +kernel
theorem dX10_price_21 : decode cX10_price 21 = .ok (.ireturn, 1) := by decide +kernel
theorem dX10_price_22 : decode cX10_price 22 = .ok (.aload_n 0, 1) := by decide +kernel
theorem dX10_price_23 : decode cX10_price 23 = .ok (.getfield 7, 3) := by decide +kernel
theorem dX10_price_26 : decode cX10_price 26 = .ok (.iconst 1, 1) := by decide +kernel
theorem dX10_price_27 : decode cX10_price 27 = .ok (.iload_n 1, 1) := by decide +kernel
theorem dX10_price_28 : decode cX10_price 28 = .ok (.iadd, 1) := by decide +kernel
theorem dX10_price_29 : decode cX10_price 29 = .ok (.iaload, 1) := by decide +kernel
theorem dX10_price_30 : decode cX10_price 30 = .ok (.istore_n 3, 1) := by decide +kernel
theorem dX10_price_31 : decode cX10_price 31 = .ok (.aload_n 0, 1) := by decide +kernel
theorem dX10_price_32 : decode cX10_price 32 = .ok (.getfield 7, 3) := by decide +kernel
theorem dX10_price_35 : decode cX10_price 35 = .ok (.iconst 1, 1) := by decide +kernel
theorem dX10_price_36 : decode cX10_price 36 = .ok (.iload_n 1, 1) := by decide +kernel
theorem dX10_price_37 : decode cX10_price 37 = .ok (.iadd, 1) := by decide +kernel
theorem dX10_price_38 : decode cX10_price 38 = .ok (.iload_n 2, 1) := by decide +kernel
theorem dX10_price_39 : decode cX10_price 39 = .ok (.iastore, 1) := by decide +kernel
theorem dX10_price_40 : decode cX10_price 40 = .ok (.iload_n 3, 1) := by decide +kernel
theorem dX10_price_41 : decode cX10_price 41 = .ok (.ireturn, 1) := by decide +kernel
theorem dX10_counts_0 : decode cX10_counts 0 = .ok (.iload_n 1, 1) := by decide +kernel
theorem dX10_counts_1 : decode cX10_counts 1 = .ok (.i2l, 1) := by decide +kernel
theorem dX10_counts_2 : decode cX10_counts 2 = .ok (.lconst 1, 1) := by decide +kernel
theorem dX10_counts_3 : decode cX10_counts 3 = .ok (.ldc2_w 216, 3) := by decide +kernel
theorem dX10_counts_6 : decode cX10_counts 6 = .ok (.invokestatic 134, 3) := by decide +kernel
theorem dX10_counts_9 : decode cX10_counts 9 = .ok (.ifCond .ne 5, 3) := by decide +kernel
theorem dX10_counts_12 : decode cX10_counts 12 = .ok (.iconst (-1), 1) := by decide +kernel
theorem dX10_counts_13 : decode cX10_counts 13 = .ok (.ireturn, 1) := by decide +kernel
theorem dX10_counts_14 : decode cX10_counts 14 = .ok (.aload_n 0, 1) := by decide +kernel
theorem dX10_counts_15 : decode cX10_counts 15 = .ok (.getfield 7, 3) := by decide +kernel
theorem dX10_counts_18 : decode cX10_counts 18 = .ok (.bipush 32, 2) := by decide +kernel
theorem dX10_counts_20 : decode cX10_counts 20 = .ok (.iaload, 1) := by decide +kernel
theorem dX10_counts_21 : decode cX10_counts 21 = .ok (.iload_n 1, 1) := by decide +kernel
theorem dX10_counts_22 : decode cX10_counts 22 = .ok (.ishr, 1) := by decide +kernel
theorem dX10_counts_23 : decode cX10_counts 23 = .ok (.iconst 1, 1) := by decide +kernel
theorem dX10_counts_24 : decode cX10_counts 24 = .ok (.iand, 1) := by decide +kernel
theorem dX10_counts_25 : decode cX10_counts 25 = .ok (.istore_n 3, 1) := by decide +kernel
theorem dX10_counts_26 : decode cX10_counts 26 = .ok (.aload_n 0, 1) := by decide +kernel
theorem dX10_counts_27 : decode cX10_counts 27 = .ok (.getfield 7, 3) := by decide +kernel
theorem dX10_counts_30 : decode cX10_counts 30 = .ok (.bipush 32, 2) := by decide +kernel
theorem dX10_counts_32 : decode cX10_counts 32 = .ok (.iload_n 2, 1) := by decide +kernel
theorem dX10_counts_33 : decode cX10_counts 33 = .ok (.ifCond .eq 17, 3) := by decide +kernel
theorem dX10_counts_36 : decode cX10_counts 36 = .ok (.aload_n 0, 1) := by decide +kernel
theorem dX10_counts_37 : decode cX10_counts 37 = .ok (.getfield 7, 3) := by decide +kernel
theorem dX10_counts_40 : decode cX10_counts 40 = .ok (.bipush 32, 2) := by decide +kernel
theorem dX10_counts_42 : decode cX10_counts 42 = .ok (.iaload, 1) := by decide +kernel
theorem dX10_counts_43 : decode cX10_counts 43 = .ok (.iconst 1, 1) := by decide +kernel
theorem dX10_counts_44 : decode cX10_counts 44 = .ok (.iload_n 1, 1) := by decide +kernel
theorem dX10_counts_45 : decode cX10_counts 45 = .ok (.ishl, 1) := by decide +kernel
theorem dX10_counts_46 : decode cX10_counts 46 = .ok (.ior, 1) := by decide +kernel
theorem dX10_counts_47 : decode cX10_counts 47 = .ok (.goto 16, 3) := by decide +kernel
theorem dX10_counts_50 : decode cX10_counts 50 = .ok (.aload_n 0, 1) := by decide +kernel
theorem dX10_counts_51 : decode cX10_counts 51 = .ok (.getfield 7, 3) := by decide +kernel
theorem dX10_counts_54 : decode cX10_counts 54 = .ok (.bipush 32, 2) := by decide +kernel
theorem dX10_counts_56 : decode cX10_counts 56 = .ok (.iaload, 1) := by decide +kernel
theorem dX10_counts_57 : decode cX10_counts 57 = .ok (.iconst 1, 1) := by decide +kernel
theorem dX10_counts_58 : decode cX10_counts 58 = .ok (.iload_n 1, 1) := by decide +kernel
theorem dX10_counts_59 : decode cX10_counts 59 = .ok (.ishl, 1) := by decide +kernel
theorem dX10_counts_60 : decode cX10_counts 60 = .ok (.iconst (-1), 1) := by decide +kernel
theorem dX10_counts_61 : decode cX10_counts 61 = .ok (.ixor, 1) := by decide +kernel
theorem dX10_counts_62 : decode cX10_counts 62 = .ok (.iand, 1) := by decide +kernel
theorem dX10_counts_63 : decode cX10_counts 63 = .ok (.iastore, 1) := by decide +kernel
theorem dX10_counts_64 : decode cX10_counts 64 = .ok (.iload_n 3, 1) := by decide +kernel
theorem dX10_counts_65 : decode cX10_counts 65 = .ok (.ireturn, 1) := by decide +kernel
theorem dX10_firstWhole_0 : decode cX10_firstWhole 0 = .ok (.iconst 0, 1) := by decide +kernel
theorem dX10_firstWhole_1 : decode cX10_firstWhole 1 = .ok (.istore_n 2, 1) := by decide +kernel
theorem dX10_firstWhole_2 : decode cX10_firstWhole 2 = .ok (.iload_n 2, 1) := by decide +kernel
theorem dX10_firstWhole_3 : decode cX10_firstWhole 3 = .ok (.aload_n 0, 1) := by decide +kernel
theorem dX10_firstWhole_4 : decode cX10_firstWhole 4 = .ok (.getfield 116, 3) := by decide +kernel
theorem dX10_firstWhole_7 : decode cX10_firstWhole 7 = .ok (.if_icmp .ge 41, 3) := by decide +kernel
theorem dX10_firstWhole_10 : decode cX10_firstWhole 10 = .ok (.aload_n 0, 1) := by decide +kernel
theorem dX10_firstWhole_11 : decode cX10_firstWhole 11 = .ok (.iload_n 2, 1) := by decide +kernel
theorem dX10_firstWhole_12 : decode cX10_firstWhole 12 = .ok (.invokevirtual 205, 3) := by decide +kernel
theorem dX10_firstWhole_15 : decode cX10_firstWhole 15 = .ok (.ifCond .eq 27, 3) := by decide +kernel
theorem dX10_firstWhole_18 : decode cX10_firstWhole 18 = .ok (.aload_n 0, 1) := by decide +kernel
theorem dX10_firstWhole_19 : decode cX10_firstWhole 19 = .ok (.getfield 26, 3) := by decide +kernel
theorem dX10_firstWhole_22 : decode cX10_firstWhole 22 = .ok (.iload_n 2, 1) := by decide +kernel
theorem dX10_firstWhole_23 : decode cX10_firstWhole 23 = .ok (.iaload, 1) := by decide +kernel
theorem dX10_firstWhole_24 : decode cX10_firstWhole 24 = .ok (.aload_n 0, 1) := by decide +kernel
theorem dX10_firstWhole_25 : decode cX10_firstWhole 25 = .ok (.getfield 7, 3) := by decide +kernel
theorem dX10_firstWhole_28 : decode cX10_firstWhole 28 = .ok (.iconst 0, 1) := by decide +kernel
theorem dX10_firstWhole_29 : decode cX10_firstWhole 29 = .ok (.iaload, 1) := by decide +kernel
theorem dX10_firstWhole_30 : decode cX10_firstWhole 30 = .ok (.iload_n 1, 1) := by decide +kernel
theorem dX10_firstWhole_31 : decode cX10_firstWhole 31 = .ok (.iconst (-1), 1) := by decide +kernel
theorem dX10_firstWhole_32 : decode cX10_firstWhole 32 = .ok (.ixor, 1) := by decide +kernel
theorem dX10_firstWhole_33 : decode cX10_firstWhole 33 = .ok (.iand, 1) := by decide +kernel
theorem dX10_firstWhole_34 : decode cX10_firstWhole 34 = .ok (.iconst (-1), 1) := by decide +kernel
theorem dX10_firstWhole_35 : decode cX10_firstWhole 35 = .ok (.ixor, 1) := by decide +kernel
theorem dX10_firstWhole_36 : decode cX10_firstWhole 36 = .ok (.iand, 1) := by decide +kernel
theorem dX10_firstWhole_37 : decode cX10_firstWhole 37 = .ok (.ifCond .ne 5, 3) := by decide +kernel
theorem dX10_firstWhole_40 : decode cX10_firstWhole 40 = .ok (.iload_n 2, 1) := by decide +kernel
theorem dX10_firstWhole_41 : decode cX10_firstWhole 41 = .ok (.ireturn, 1) := by decide +kernel
theorem dX10_firstWhole_42 : decode cX10_firstWhole 42 = .ok (.iinc 2 1, 3) := by decide +kernel
theorem dX10_firstWhole_45 : decode cX10_firstWhole 45 = .ok (.goto (-43), 3) := by decide +kernel
theorem dX10_firstWhole_48 : decode cX10_firstWhole 48 = .ok (.bipush (-4), 2) := by decide +kernel
theorem dX10_firstWhole_50 : decode cX10_firstWhole 50 = .ok (.ireturn, 1) := by decide +kernel
theorem dX10_takesSet_0 : decode cX10_takesSet 0 = .ok (.iload_n 2, 1) := by decide +kernel
theorem dX10_takesSet_1 : decode cX10_takesSet 1 = .ok (.aload_n 0, 1) := by decide +kernel
theorem dX10_takesSet_2 : decode cX10_takesSet 2 = .ok (.getfield 229, 3) := by decide +kernel
theorem dX10_takesSet_5 : decode cX10_takesSet 5 = .ok (.if_icmp .ge 7, 3) := by decide +kernel
theorem dX10_takesSet_8 : decode cX10_takesSet 8 = .ok (.iconst 1, 1) := by decide +kernel
theorem dX10_takesSet_9 : decode cX10_takesSet 9 = .ok (.goto 4, 3) := by decide +kernel
theorem dX10_takesSet_12 : decode cX10_takesSet 12 = .ok (.iconst 0, 1) := by decide +kernel
theorem dX10_takesSet_13 : decode cX10_takesSet 13 = .ok (.istore_n 3, 1) := by decide +kernel
theorem dX10_takesSet_14 : decode cX10_takesSet 14 = .ok (.aload_n 0, 1) := by decide +kernel
theorem dX10_takesSet_15 : decode cX10_takesSet 15 = .ok (.iload_n 3, 1) := by decide +kernel
theorem dX10_takesSet_16 : decode cX10_takesSet 16 = .ok (.ifCond .eq 7, 3) := by decide +kernel
theorem dX10_takesSet_19 : decode cX10_takesSet 19 = .ok (.iconst 1, 1) := by decide +kernel
theorem dX10_takesSet_20 : decode cX10_takesSet 20 = .ok (.goto 24, 3) := by decide +kernel
theorem dX10_takesSet_23 : decode cX10_takesSet 23 = .ok (.aload_n 0, 1) := by decide +kernel
theorem dX10_takesSet_24 : decode cX10_takesSet 24 = .ok (.getfield 232, 3) := by decide +kernel
theorem dX10_takesSet_27 : decode cX10_takesSet 27 = .ok (.iload_n 2, 1) := by decide +kernel
theorem dX10_takesSet_28 : decode cX10_takesSet 28 = .ok (.aload_n 0, 1) := by decide +kernel
theorem dX10_takesSet_29 : decode cX10_takesSet 29 = .ok (.getfield 229, 3) := by decide +kernel
theorem dX10_takesSet_32 : decode cX10_takesSet 32 = .ok (.if_icmp .ne 7, 3) := by decide +kernel
theorem dX10_takesSet_35 : decode cX10_takesSet 35 = .ok (.iconst 1, 1) := by decide +kernel
theorem dX10_takesSet_36 : decode cX10_takesSet 36 = .ok (.goto 4, 3) := by decide +kernel
theorem dX10_takesSet_39 : decode cX10_takesSet 39 = .ok (.iconst 0, 1) := by decide +kernel
theorem dX10_takesSet_40 : decode cX10_takesSet 40 = .ok (.invokestatic 209, 3) := by decide +kernel
theorem dX10_takesSet_43 : decode cX10_takesSet 43 = .ok (.iadd, 1) := by decide +kernel
theorem dX10_takesSet_44 : decode cX10_takesSet 44 = .ok (.putfield 232, 3) := by decide +kernel
theorem dX10_takesSet_47 : decode cX10_takesSet 47 = .ok (.aload_n 0, 1) := by decide +kernel
theorem dX10_takesSet_48 : decode cX10_takesSet 48 = .ok (.iload_n 3, 1) := by decide +kernel
theorem dX10_takesSet_49 : decode cX10_takesSet 49 = .ok (.ifCond .ne 19, 3) := by decide +kernel
theorem dX10_takesSet_52 : decode cX10_takesSet 52 = .ok (.iload_n 2, 1) := by decide +kernel
theorem dX10_takesSet_53 : decode cX10_takesSet 53 = .ok (.aload_n 0, 1) := by decide +kernel
theorem dX10_takesSet_54 : decode cX10_takesSet 54 = .ok (.getfield 229, 3) := by decide +kernel
theorem dX10_takesSet_57 : decode cX10_takesSet 57 = .ok (.if_icmp .ne 15, 3) := by decide +kernel
theorem dX10_takesSet_60 : decode cX10_takesSet 60 = .ok (.iload_n 1, 1) := by decide +kernel
theorem dX10_takesSet_61 : decode cX10_takesSet 61 = .ok (.aload_n 0, 1) := by decide +kernel
theorem dX10_takesSet_62 : decode cX10_takesSet 62 = .ok (.getfield 235, 3) := by decide +kernel
theorem dX10_takesSet_65 : decode cX10_takesSet 65 = .ok (.if_icmp .ge 7, 3) := by decide +kernel
theorem dX10_takesSet_68 : decode cX10_takesSet 68 = .ok (.iload_n 1, 1) := by decide +kernel
theorem dX10_takesSet_69 : decode cX10_takesSet 69 = .ok (.goto 7, 3) := by decide +kernel
theorem dX10_takesSet_72 : decode cX10_takesSet 72 = .ok (.aload_n 0, 1) := by decide +kernel
theorem dX10_takesSet_73 : decode cX10_takesSet 73 = .ok (.getfield 235, 3) := by decide +kernel
theorem dX10_takesSet_76 : decode cX10_takesSet 76 = .ok (.putfield 235, 3) := by decide +kernel
theorem dX10_takesSet_79 : decode cX10_takesSet 79 = .ok (.aload_n 0, 1) := by decide +kernel
theorem dX10_takesSet_80 : decode cX10_takesSet 80 = .ok (.iload_n 3, 1) := by decide +kernel
theorem dX10_takesSet_81 : decode cX10_takesSet 81 = .ok (.ifCond .eq 7, 3) := by decide +kernel
theorem dX10_takesSet_84 : decode cX10_takesSet 84 = .ok (.iload_n 2, 1) := by decide +kernel
theorem dX10_takesSet_85 : decode cX10_takesSet 85 = .ok (.goto 7, 3) := by decide +kernel
theorem dX10_takesSet_88 : decode cX10_takesSet 88 = .ok (.aload_n 0, 1) := by decide +kernel
theorem dX10_takesSet_89 : decode cX10_takesSet 89 = .ok (.getfield 229, 3) := by decide +kernel
theorem dX10_takesSet_92 : decode cX10_takesSet 92 = .ok (.putfield 229, 3) := by decide +kernel
theorem dX10_takesSet_95 : decode cX10_takesSet 95 = .ok (.return_, 1) := by decide +kernel
theorem dX10_enters_0 : decode cX10_enters 0 = .ok (.aload_n 0, 1) := by decide +kernel
theorem dX10_enters_1 : decode cX10_enters 1 = .ok (.getfield 38, 3) := by decide +kernel
theorem dX10_enters_4 : decode cX10_enters 4 = .ok (.iload_n 1, 1) := by decide +kernel
theorem dX10_enters_5 : decode cX10_enters 5 = .ok (.aload_n 0, 1) := by decide +kernel
theorem dX10_enters_6 : decode cX10_enters 6 = .ok (.aload_n 0, 1) := by decide +kernel
theorem dX10_enters_7 : decode cX10_enters 7 = .ok (.getfield 44, 3) := by decide +kernel
theorem dX10_enters_10 : decode cX10_enters 10 = .ok (.iload_n 1, 1) := by decide +kernel
theorem dX10_enters_11 : decode cX10_enters 11 = .ok (.iaload, 1) := by decide +kernel
theorem dX10_enters_12 : decode cX10_enters 12 = .ok (.invokevirtual 238, 3) := by decide +kernel
theorem dX10_enters_15 : decode cX10_enters 15 = .ok (.iastore, 1) := by decide +kernel
theorem dX10_enters_16 : decode cX10_enters 16 = .ok (.aload_n 0, 1) := by decide +kernel
theorem dX10_enters_17 : decode cX10_enters 17 = .ok (.getfield 41, 3) := by decide +kernel
theorem dX10_enters_20 : decode cX10_enters 20 = .ok (.iload_n 1, 1) := by decide +kernel
theorem dX10_enters_21 : decode cX10_enters 21 = .ok (.iconst 0, 1) := by decide +kernel
theorem dX10_enters_22 : decode cX10_enters 22 = .ok (.iastore, 1) := by decide +kernel
theorem dX10_enters_23 : decode cX10_enters 23 = .ok (.aload_n 0, 1) := by decide +kernel
theorem dX10_enters_24 : decode cX10_enters 24 = .ok (.getfield 38, 3) := by decide +kernel
theorem dX10_enters_27 : decode cX10_enters 27 = .ok (.iload_n 1, 1) := by decide +kernel
theorem dX10_enters_28 : decode cX10_enters 28 = .ok (.iaload, 1) := by decide +kernel
theorem dX10_enters_29 : decode cX10_enters 29 = .ok (.bipush (-4), 2) := by decide +kernel
theorem dX10_enters_31 : decode cX10_enters 31 = .ok (.if_icmp .ne 19, 3) := by decide +kernel
theorem dX10_enters_34 : decode cX10_enters 34 = .ok (.aload_n 0, 1) := by decide +kernel
theorem dX10_enters_35 : decode cX10_enters 35 = .ok (.aload_n 0, 1) := by decide +kernel
theorem dX10_enters_36 : decode cX10_enters 36 = .ok (.getfield 44, 3) := by decide +kernel
theorem dX10_enters_39 : decode cX10_enters 39 = .ok (.iload_n 1, 1) := by decide +kernel
theorem dX10_enters_40 : decode cX10_enters 40 = .ok (.iaload, 1) := by decide +kernel
theorem dX10_enters_41 : decode cX10_enters 41 = .ok (.aload_n 0, 1) := by decide +kernel
theorem dX10_enters_42 : decode cX10_enters 42 = .ok (.getfield 50, 3) := by decide +kernel
theorem dX10_enters_45 : decode cX10_enters 45 = .ok (.iload_n 1, 1) := by decide +kernel
theorem dX10_enters_46 : decode cX10_enters 46 = .ok (.iaload, 1) := by decide +kernel
theorem dX10_enters_47 : decode cX10_enters 47 = .ok (.invokevirtual 241, 3) := by decide +kernel
theorem dX10_enters_50 : decode cX10_enters 50 = .ok (.return_, 1) := by decide +kernel
theorem dX10_findBreaks_0 : decode cX10_findBreaks 0 = .ok (.aload_n 0, 1) := by decide +kernel
theorem dX10_findBreaks_1 : decode cX10_findBreaks 1 = .ok (.ldc 245, 2) := by decide +kernel
theorem dX10_findBreaks_3 : decode cX10_findBreaks 3 = .ok (.putfield 229, 3) := by decide +kernel
theorem dX10_findBreaks_6 : decode cX10_findBreaks 6 = .ok (.aload_n 0, 1) := by decide +kernel
theorem dX10_findBreaks_7 : decode cX10_findBreaks 7 = .ok (.iconst 0, 1) := by decide +kernel
theorem dX10_findBreaks_8 : decode cX10_findBreaks 8 = .ok (.putfield 235, 3) := by decide +kernel
theorem dX10_findBreaks_11 : decode cX10_findBreaks 11 = .ok (.aload_n 0, 1) := by decide +kernel
theorem dX10_findBreaks_12 : decode cX10_findBreaks 12 = .ok (.iconst 0, 1) := by decide +kernel
theorem dX10_findBreaks_13 : decode cX10_findBreaks 13 = .ok (.putfield 232, 3) := by decide +kernel
theorem dX10_findBreaks_16 : decode cX10_findBreaks 16 = .ok (.aload_n 0, 1) := by decide +kernel
theorem dX10_findBreaks_17 : decode cX10_findBreaks 17 = .ok (.getfield 44, 3) := by decide +kernel
theorem dX10_findBreaks_20 : decode cX10_findBreaks 20 = .ok (.iconst 0, 1) := by decide +kernel
theorem dX10_findBreaks_21 : decode cX10_findBreaks 21 = .ok (.iconst 0, 1) := by decide +kernel
theorem dX10_findBreaks_22 : decode cX10_findBreaks 22 = .ok (.iastore, 1) := by decide +kernel
theorem dX10_findBreaks_23 : decode cX10_findBreaks 23 = .ok (.aload_n 0, 1) := by decide +kernel
theorem dX10_findBreaks_24 : decode cX10_findBreaks 24 = .ok (.getfield 47, 3) := by decide +kernel
theorem dX10_findBreaks_27 : decode cX10_findBreaks 27 = .ok (.iconst 0, 1) := by decide +kernel
theorem dX10_findBreaks_28 : decode cX10_findBreaks 28 = .ok (.iconst 0, 1) := by decide +kernel
theorem dX10_findBreaks_29 : decode cX10_findBreaks 29 = .ok (.iastore, 1) := by decide +kernel
theorem dX10_findBreaks_30 : decode cX10_findBreaks 30 = .ok (.aload_n 0, 1) := by decide +kernel
theorem dX10_findBreaks_31 : decode cX10_findBreaks 31 = .ok (.getfield 50, 3) := by decide +kernel
theorem dX10_findBreaks_34 : decode cX10_findBreaks 34 = .ok (.iconst 0, 1) := by decide +kernel
theorem dX10_findBreaks_35 : decode cX10_findBreaks 35 = .ok (.iconst 0, 1) := by decide +kernel
theorem dX10_findBreaks_36 : decode cX10_findBreaks 36 = .ok (.iastore, 1) := by decide +kernel
theorem dX10_findBreaks_37 : decode cX10_findBreaks 37 = .ok (.iconst 0, 1) := by decide +kernel
theorem dX10_findBreaks_38 : decode cX10_findBreaks 38 = .ok (.istore_n 2, 1) := by decide +kernel
theorem dX10_findBreaks_39 : decode cX10_findBreaks 39 = .ok (.aload_n 0, 1) := by decide +kernel
theorem dX10_findBreaks_40 : decode cX10_findBreaks 40 = .ok (.iconst 0, 1) := by decide +kernel
theorem dX10_findBreaks_41 : decode cX10_findBreaks 41 = .ok (.invokevirtual 246, 3) := by decide +kernel
theorem dX10_findBreaks_44 : decode cX10_findBreaks 44 = .ok (.iload_n 2, 1) := by decide +kernel
theorem dX10_findBreaks_45 : decode cX10_findBreaks 45 = .ok (.ifCond .lt 213, 3) := by decide +kernel
theorem dX10_findBreaks_48 : decode cX10_findBreaks 48 = .ok (.aload_n 0, 1) := by decide +kernel
theorem dX10_findBreaks_49 : decode cX10_findBreaks 49 = .ok (.getfield 38, 3) := by decide +kernel
theorem dX10_findBreaks_52 : decode cX10_findBreaks 52 = .ok (.iload_n 2, 1) := by decide +kernel
theorem dX10_findBreaks_53 : decode cX10_findBreaks 53 = .ok (.iaload, 1) := by decide +kernel
theorem dX10_findBreaks_54 : decode cX10_findBreaks 54 = .ok (.bipush (-4), 2) := by decide +kernel
theorem dX10_findBreaks_56 : decode cX10_findBreaks 56 = .ok (.if_icmp .eq 16, 3) := by decide +kernel
theorem dX10_findBreaks_59 : decode cX10_findBreaks 59 = .ok (.aload_n 0, 1) := by decide +kernel
theorem dX10_findBreaks_60 : decode cX10_findBreaks 60 = .ok (.getfield 41, 3) := by decide +kernel
theorem dX10_findBreaks_63 : decode cX10_findBreaks 63 = .ok (.iload_n 2, 1) := by decide +kernel
theorem dX10_findBreaks_64 : decode cX10_findBreaks 64 = .ok (.iaload, 1) := by decide +kernel
theorem dX10_findBreaks_65 : decode cX10_findBreaks 65 = .ok (.aload_n 0, 1) := by decide +kernel
theorem dX10_findBreaks_66 : decode cX10_findBreaks 66 = .ok (.getfield 123, 3) := by decide +kernel
theorem dX10_findBreaks_69 : decode cX10_findBreaks 69 = .ok (.if_icmp .ne 9, 3) := by decide +kernel
theorem dX10_findBreaks_72 : decode cX10_findBreaks 72 = .ok (.iinc 2 (-1), 3) := by decide +kernel
theorem dX10_findBreaks_75 : decode cX10_findBreaks 75 = .ok (.goto (-31), 3) := by decide +kernel
theorem dX10_findBreaks_78 : decode cX10_findBreaks 78 = .ok (.aload_n 0, 1) := by decide +kernel
theorem dX10_findBreaks_79 : decode cX10_findBreaks 79 = .ok (.getfield 41, 3) := by decide +kernel
theorem dX10_findBreaks_82 : decode cX10_findBreaks 82 = .ok (.iload_n 2, 1) := by decide +kernel
theorem dX10_findBreaks_83 : decode cX10_findBreaks 83 = .ok (.iaload, 1) := by decide +kernel
theorem dX10_findBreaks_84 : decode cX10_findBreaks 84 = .ok (.istore_n 3, 1) := by decide +kernel
theorem dX10_findBreaks_85 : decode cX10_findBreaks 85 = .ok (.aload_n 0, 1) := by decide +kernel
theorem dX10_findBreaks_86 : decode cX10_findBreaks 86 = .ok (.getfield 41, 3) := by decide +kernel
theorem dX10_findBreaks_89 : decode cX10_findBreaks 89 = .ok (.iload_n 2, 1) := by decide +kernel
theorem dX10_findBreaks_90 : decode cX10_findBreaks 90 = .ok (.dup2, 1) := by decide +kernel
theorem dX10_findBreaks_91 : decode cX10_findBreaks 91 = .ok (.iaload, 1) := by decide +kernel
theorem dX10_findBreaks_92 : decode cX10_findBreaks 92 = .ok (.iconst 1, 1) := by decide +kernel
theorem dX10_findBreaks_93 : decode cX10_findBreaks 93 = .ok (.iadd, 1) := by decide +kernel
theorem dX10_findBreaks_94 : decode cX10_findBreaks 94 = .ok (.iastore, 1) := by decide +kernel
theorem dX10_findBreaks_95 : decode cX10_findBreaks 95 = .ok (.aload_n 0, 1) := by decide +kernel
theorem dX10_findBreaks_96 : decode cX10_findBreaks 96 = .ok (.getfield 26, 3) := by decide +kernel
theorem dX10_findBreaks_99 : decode cX10_findBreaks 99 = .ok (.aload_n 0, 1) := by decide +kernel
theorem dX10_findBreaks_100 : decode cX10_findBreaks 100 = .ok (.getfield 38, 3) := by decide +kernel
theorem dX10_findBreaks_103 : decode cX10_findBreaks 103 = .ok (.iload_n 2, 1) := by decide +kernel
theorem dX10_findBreaks_104 : decode cX10_findBreaks 104 = .ok (.iaload, 1) := by decide +kernel
theorem dX10_findBreaks_105 : decode cX10_findBreaks 105 = .ok (.iaload, 1) := by decide +kernel
theorem dX10_findBreaks_106 : decode cX10_findBreaks 106 = .ok (.iload_n 3, 1) := by decide +kernel
theorem dX10_findBreaks_107 : decode cX10_findBreaks 107 = .ok (.ishr, 1) := by decide +kernel
theorem dX10_findBreaks_108 : decode cX10_findBreaks 108 = .ok (.iconst 1, 1) := by decide +kernel
theorem dX10_findBreaks_109 : decode cX10_findBreaks 109 = .ok (.iand, 1) := by decide +kernel
theorem dX10_findBreaks_110 : decode cX10_findBreaks 110 = .ok (.iconst 1, 1) := by decide +kernel
theorem dX10_findBreaks_111 : decode cX10_findBreaks 111 = .ok (.if_icmp .ne 20, 3) := by decide +kernel
theorem dX10_findBreaks_114 : decode cX10_findBreaks 114 = .ok (.aload_n 0, 1) := by decide +kernel
theorem dX10_findBreaks_115 : decode cX10_findBreaks 115 = .ok (.getfield 47, 3) := by decide +kernel
theorem dX10_findBreaks_118 : decode cX10_findBreaks 118 = .ok (.iload_n 2, 1) := by decide +kernel
theorem dX10_findBreaks_119 : decode cX10_findBreaks 119 = .ok (.iaload, 1) := by decide +kernel
theorem dX10_findBreaks_120 : decode cX10_findBreaks 120 = .ok (.iload_n 3, 1) := by decide +kernel
theorem dX10_findBreaks_121 : decode cX10_findBreaks 121 = .ok (.ishr, 1) := by decide +kernel
theorem dX10_findBreaks_122 : decode cX10_findBreaks 122 = .ok (.iconst 1, 1) := by decide +kernel
theorem dX10_findBreaks_123 : decode cX10_findBreaks 123 = .ok (.iand, 1) := by decide +kernel
theorem dX10_findBreaks_124 : decode cX10_findBreaks 124 = .ok (.ifCond .ne 7, 3) := by decide +kernel
theorem dX10_findBreaks_127 : decode cX10_findBreaks 127 = .ok (.iconst 1, 1) := by decide +kernel
theorem dX10_findBreaks_128 : decode cX10_findBreaks 128 = .ok (.goto 4, 3) := by decide +kernel
theorem dX10_findBreaks_131 : decode cX10_findBreaks 131 = .ok (.iconst 0, 1) := by decide +kernel
theorem dX10_findBreaks_132 : decode cX10_findBreaks 132 = .ok (.istore 4, 2) := by decide +kernel
theorem dX10_findBreaks_134 : decode cX10_findBreaks 134 = .ok (.aload_n 0, 1) := by decide +kernel
theorem dX10_findBreaks_135 : decode cX10_findBreaks 135 = .ok (.getfield 50, 3) := by decide +kernel
theorem dX10_findBreaks_138 : decode cX10_findBreaks 138 = .ok (.iload_n 2, 1) := by decide +kernel
theorem dX10_findBreaks_139 : decode cX10_findBreaks 139 = .ok (.iaload, 1) := by decide +kernel
theorem dX10_findBreaks_140 : decode cX10_findBreaks 140 = .ok (.iload_n 1, 1) := by decide +kernel
theorem dX10_findBreaks_141 : decode cX10_findBreaks 141 = .ok (.ifCond .eq 14, 3) := by decide +kernel
theorem dX10_findBreaks_144 : decode cX10_findBreaks 144 = .ok (.aload_n 0, 1) := by decide +kernel
theorem dX10_findBreaks_145 : decode cX10_findBreaks 145 = .ok (.getfield 7, 3) := by decide +kernel
theorem dX10_findBreaks_148 : decode cX10_findBreaks 148 = .ok (.iconst 1, 1) := by decide +kernel
theorem dX10_findBreaks_149 : decode cX10_findBreaks 149 = .ok (.iload_n 3, 1) := by decide +kernel
theorem dX10_findBreaks_150 : decode cX10_findBreaks 150 = .ok (.iadd, 1) := by decide +kernel
theorem dX10_findBreaks_151 : decode cX10_findBreaks 151 = .ok (.iaload, 1) := by decide +kernel
theorem dX10_findBreaks_152 : decode cX10_findBreaks 152 = .ok (.goto 4, 3) := by decide +kernel
theorem dX10_findBreaks_155 : decode cX10_findBreaks 155 = .ok (.iconst 1, 1) := by decide +kernel
theorem dX10_findBreaks_156 : decode cX10_findBreaks 156 = .ok (.iadd, 1) := by decide +kernel
theorem dX10_findBreaks_157 : decode cX10_findBreaks 157 = .ok (.istore 5, 2) := by decide +kernel
theorem dX10_findBreaks_159 : decode cX10_findBreaks 159 = .ok (.iload 4, 2) := by decide +kernel
theorem dX10_findBreaks_161 : decode cX10_findBreaks 161 = .ok (.ifCond .eq 77, 3) := by decide +kernel
theorem dX10_findBreaks_164 : decode cX10_findBreaks 164 = .ok (.iload 5, 2) := by decide +kernel
theorem dX10_findBreaks_166 : decode cX10_findBreaks 166 = .ok (.aload_n 0, 1) := by decide +kernel
theorem dX10_findBreaks_167 : decode cX10_findBreaks 167 = .ok (.getfield 229, 3) := by decide +kernel
theorem dX10_findBreaks_170 : decode cX10_findBreaks 170 = .ok (.if_icmp .gt 68, 3) := by decide +kernel
theorem dX10_findBreaks_173 : decode cX10_findBreaks 173 = .ok (.aload_n 0, 1) := by decide +kernel
theorem dX10_findBreaks_174 : decode cX10_findBreaks 174 = .ok (.getfield 44, 3) := by decide +kernel
theorem dX10_findBreaks_177 : decode cX10_findBreaks 177 = .ok (.iload_n 2, 1) := by decide +kernel
theorem dX10_findBreaks_178 : decode cX10_findBreaks 178 = .ok (.iconst 1, 1) := by decide +kernel
theorem dX10_findBreaks_179 : decode cX10_findBreaks 179 = .ok (.iadd, 1) := by decide +kernel
theorem dX10_findBreaks_180 : decode cX10_findBreaks 180 = .ok (.aload_n 0, 1) := by decide +kernel
theorem dX10_findBreaks_181 : decode cX10_findBreaks 181 = .ok (.getfield 44, 3) := by decide +kernel
theorem dX10_findBreaks_184 : decode cX10_findBreaks 184 = .ok (.iload_n 2, 1) := by decide +kernel
theorem dX10_findBreaks_185 : decode cX10_findBreaks 185 = .ok (.iaload, 1) := by decide +kernel
theorem dX10_findBreaks_186 : decode cX10_findBreaks 186 = .ok (.iconst 1, 1) := by decide +kernel
theorem dX10_findBreaks_187 : decode cX10_findBreaks 187 = .ok (.iload_n 3, 1) := by decide +kernel
theorem dX10_findBreaks_188 : decode cX10_findBreaks 188 = .ok (.ishl, 1) := by decide +kernel
theorem dX10_findBreaks_189 : decode cX10_findBreaks 189 = .ok (.ior, 1) := by decide +kernel
theorem dX10_findBreaks_190 : decode cX10_findBreaks 190 = .ok (.iastore, 1) := by decide +kernel
theorem dX10_findBreaks_191 : decode cX10_findBreaks 191 = .ok (.aload_n 0, 1) := by decide +kernel
theorem dX10_findBreaks_192 : decode cX10_findBreaks 192 = .ok (.getfield 47, 3) := by decide +kernel
theorem dX10_findBreaks_195 : decode cX10_findBreaks 195 = .ok (.iload_n 2, 1) := by decide +kernel
theorem dX10_findBreaks_196 : decode cX10_findBreaks 196 = .ok (.iconst 1, 1) := by decide +kernel
theorem dX10_findBreaks_197 : decode cX10_findBreaks 197 = .ok (.iadd, 1) := by decide +kernel
theorem dX10_findBreaks_198 : decode cX10_findBreaks 198 = .ok (.aload_n 0, 1) := by decide +kernel
theorem dX10_findBreaks_199 : decode cX10_findBreaks 199 = .ok (.getfield 47, 3) := by decide +kernel
theorem dX10_findBreaks_202 : decode cX10_findBreaks 202 = .ok (.iload_n 2, 1) := by decide +kernel
theorem dX10_findBreaks_203 : decode cX10_findBreaks 203 = .ok (.iaload, 1) := by decide +kernel
theorem dX10_findBreaks_204 : decode cX10_findBreaks 204 = .ok (.iastore, 1) := by decide +kernel
theorem dX10_findBreaks_205 : decode cX10_findBreaks 205 = .ok (.aload_n 0, 1) := by decide +kernel
theorem dX10_findBreaks_206 : decode cX10_findBreaks 206 = .ok (.getfield 50, 3) := by decide +kernel
theorem dX10_findBreaks_209 : decode cX10_findBreaks 209 = .ok (.iload_n 2, 1) := by decide +kernel
theorem dX10_findBreaks_210 : decode cX10_findBreaks 210 = .ok (.iconst 1, 1) := by decide +kernel
theorem dX10_findBreaks_211 : decode cX10_findBreaks 211 = .ok (.iadd, 1) := by decide +kernel
theorem dX10_findBreaks_212 : decode cX10_findBreaks 212 = .ok (.iload 5, 2) := by decide +kernel
theorem dX10_findBreaks_214 : decode cX10_findBreaks 214 = .ok (.iastore, 1) := by decide +kernel
theorem dX10_findBreaks_215 : decode cX10_findBreaks 215 = .ok (.aload_n 0, 1) := by decide +kernel
theorem dX10_findBreaks_216 : decode cX10_findBreaks 216 = .ok (.getfield 47, 3) := by decide +kernel
theorem dX10_findBreaks_219 : decode cX10_findBreaks 219 = .ok (.iload_n 2, 1) := by decide +kernel
theorem dX10_findBreaks_220 : decode cX10_findBreaks 220 = .ok (.dup2, 1) := by decide +kernel
theorem dX10_findBreaks_221 : decode cX10_findBreaks 221 = .ok (.iaload, 1) := by decide +kernel
theorem dX10_findBreaks_222 : decode cX10_findBreaks 222 = .ok (.iconst 1, 1) := by decide +kernel
theorem dX10_findBreaks_223 : decode cX10_findBreaks 223 = .ok (.iload_n 3, 1) := by decide +kernel
theorem dX10_findBreaks_224 : decode cX10_findBreaks 224 = .ok (.ishl, 1) := by decide +kernel
theorem dX10_findBreaks_225 : decode cX10_findBreaks 225 = .ok (.ior, 1) := by decide +kernel
theorem dX10_findBreaks_226 : decode cX10_findBreaks 226 = .ok (.iastore, 1) := by decide +kernel
theorem dX10_findBreaks_227 : decode cX10_findBreaks 227 = .ok (.iinc 2 1, 3) := by decide +kernel
theorem dX10_findBreaks_230 : decode cX10_findBreaks 230 = .ok (.aload_n 0, 1) := by decide +kernel
theorem dX10_findBreaks_231 : decode cX10_findBreaks 231 = .ok (.iload_n 2, 1) := by decide +kernel
theorem dX10_findBreaks_232 : decode cX10_findBreaks 232 = .ok (.invokevirtual 246, 3) := by decide +kernel
theorem dX10_findBreaks_235 : decode cX10_findBreaks 235 = .ok (.goto 20, 3) := by decide +kernel
theorem dX10_findBreaks_238 : decode cX10_findBreaks 238 = .ok (.iload 4, 2) := by decide +kernel
theorem dX10_findBreaks_240 : decode cX10_findBreaks 240 = .ok (.ifCond .eq 15, 3) := by decide +kernel
theorem dX10_findBreaks_243 : decode cX10_findBreaks 243 = .ok (.aload_n 0, 1) := by decide +kernel
theorem dX10_findBreaks_244 : decode cX10_findBreaks 244 = .ok (.getfield 47, 3) := by decide +kernel
theorem dX10_findBreaks_247 : decode cX10_findBreaks 247 = .ok (.iload_n 2, 1) := by decide +kernel
theorem dX10_findBreaks_248 : decode cX10_findBreaks 248 = .ok (.dup2, 1) := by decide +kernel
theorem dX10_findBreaks_249 : decode cX10_findBreaks 249 = .ok (.iaload, 1) := by decide +kernel
theorem dX10_findBreaks_250 : decode cX10_findBreaks 250 = .ok (.iconst 1, 1) := by decide +kernel
theorem dX10_findBreaks_251 : decode cX10_findBreaks 251 = .ok (.iload_n 3, 1) := by decide +kernel
theorem dX10_findBreaks_252 : decode cX10_findBreaks 252 = .ok (.ishl, 1) := by decide +kernel
theorem dX10_findBreaks_253 : decode cX10_findBreaks 253 = .ok (.ior, 1) := by decide +kernel
theorem dX10_findBreaks_254 : decode cX10_findBreaks 254 = .ok (.iastore, 1) := by decide +kernel
theorem dX10_findBreaks_255 : decode cX10_findBreaks 255 = .ok (.goto (-211), 3) := by decide +kernel
theorem dX10_findBreaks_258 : decode cX10_findBreaks 258 = .ok (.return_, 1) := by decide +kernel
theorem dX10_fewest_0 : decode cX10_fewest 0 = .ok (.iload_n 1, 1) := by decide +kernel
theorem dX10_fewest_1 : decode cX10_fewest 1 = .ok (.i2l, 1) := by decide +kernel
theorem dX10_fewest_2 : decode cX10_fewest 2 = .ok (.lconst 0, 1) := by decide +kernel
theorem dX10_fewest_3 : decode cX10_fewest 3 = .ok (.ldc2_w 249, 3) := by decide +kernel
theorem dX10_fewest_6 : decode cX10_fewest 6 = .ok (.invokestatic 134, 3) := by decide +kernel
theorem dX10_fewest_9 : decode cX10_fewest 9 = .ok (.ifCond .ne 5, 3) := by decide +kernel
theorem dX10_fewest_12 : decode cX10_fewest 12 = .ok (.iconst (-1), 1) := by decide +kernel
theorem dX10_fewest_13 : decode cX10_fewest 13 = .ok (.ireturn, 1) := by decide +kernel
theorem dX10_fewest_14 : decode cX10_fewest 14 = .ok (.aload_n 0, 1) := by decide +kernel
theorem dX10_fewest_15 : decode cX10_fewest 15 = .ok (.iconst 0, 1) := by decide +kernel
theorem dX10_fewest_16 : decode cX10_fewest 16 = .ok (.invokevirtual 251, 3) := by decide +kernel
theorem dX10_fewest_19 : decode cX10_fewest 19 = .ok (.iload_n 1, 1) := by decide +kernel
theorem dX10_fewest_20 : decode cX10_fewest 20 = .ok (.ifCond .ne 10, 3) := by decide +kernel
theorem dX10_fewest_23 : decode cX10_fewest 23 = .ok (.aload_n 0, 1) := by decide +kernel
theorem dX10_fewest_24 : decode cX10_fewest 24 = .ok (.getfield 229, 3) := by decide +kernel
theorem dX10_fewest_27 : decode cX10_fewest 27 = .ok (.goto 19, 3) := by decide +kernel
theorem dX10_fewest_30 : decode cX10_fewest 30 = .ok (.iload_n 1, 1) := by decide +kernel
theorem dX10_fewest_31 : decode cX10_fewest 31 = .ok (.iconst 1, 1) := by decide +kernel
theorem dX10_fewest_32 : decode cX10_fewest 32 = .ok (.if_icmp .ne 10, 3) := by decide +kernel
theorem dX10_fewest_35 : decode cX10_fewest 35 = .ok (.aload_n 0, 1) := by decide +kernel
theorem dX10_fewest_36 : decode cX10_fewest 36 = .ok (.getfield 235, 3) := by decide +kernel
theorem dX10_fewest_39 : decode cX10_fewest 39 = .ok (.goto 7, 3) := by decide +kernel
theorem dX10_fewest_42 : decode cX10_fewest 42 = .ok (.aload_n 0, 1) := by decide +kernel
theorem dX10_fewest_43 : decode cX10_fewest 43 = .ok (.getfield 232, 3) := by decide +kernel
theorem dX10_fewest_46 : decode cX10_fewest 46 = .ok (.ireturn, 1) := by decide +kernel
theorem dX10_cheapest_0 : decode cX10_cheapest 0 = .ok (.iload_n 1, 1) := by decide +kernel
theorem dX10_cheapest_1 : decode cX10_cheapest 1 = .ok (.i2l, 1) := by decide +kernel
theorem dX10_cheapest_2 : decode cX10_cheapest 2 = .ok (.lconst 0, 1) := by decide +kernel
theorem dX10_cheapest_3 : decode cX10_cheapest 3 = .ok (.lconst 1, 1) := by decide +kernel
theorem dX10_cheapest_4 : decode cX10_cheapest 4 = .ok (.invokestatic 134, 3) := by decide +kernel
theorem dX10_cheapest_7 : decode cX10_cheapest 7 = .ok (.ifCond .ne 5, 3) := by decide +kernel
theorem dX10_cheapest_10 : decode cX10_cheapest 10 = .ok (.iconst (-1), 1) := by decide +kernel
theorem dX10_cheapest_11 : decode cX10_cheapest 11 = .ok (.ireturn, 1) := by decide +kernel
theorem dX10_cheapest_12 : decode cX10_cheapest 12 = .ok (.aload_n 0, 1) := by decide +kernel
theorem dX10_cheapest_13 : decode cX10_cheapest 13 = .ok (.iconst 1, 1) := by decide +kernel
theorem dX10_cheapest_14 : decode cX10_cheapest 14 = .ok (.invokevirtual 251, 3) := by decide +kernel
theorem dX10_cheapest_17 : decode cX10_cheapest 17 = .ok (.iload_n 1, 1) := by decide +kernel
theorem dX10_cheapest_18 : decode cX10_cheapest 18 = .ok (.ifCond .ne 10, 3) := by decide +kernel
theorem dX10_cheapest_21 : decode cX10_cheapest 21 = .ok (.aload_n 0, 1) := by decide +kernel
theorem dX10_cheapest_22 : decode cX10_cheapest 22 = .ok (.getfield 229, 3) := by decide +kernel
theorem dX10_cheapest_25 : decode cX10_cheapest 25 = .ok (.goto 7, 3) := by decide +kernel
theorem dX10_cheapest_28 : decode cX10_cheapest 28 = .ok (.aload_n 0, 1) := by decide +kernel
theorem dX10_cheapest_29 : decode cX10_cheapest 29 = .ok (.getfield 235, 3) := by decide +kernel
theorem dX10_cheapest_32 : decode cX10_cheapest 32 = .ok (.ireturn, 1) := by decide +kernel
theorem dX10_without_0 : decode cX10_without 0 = .ok (.iload_n 1, 1) := by decide +kernel
theorem dX10_without_1 : decode cX10_without 1 = .ok (.ifCond .lt 16, 3) := by decide +kernel
theorem dX10_without_4 : decode cX10_without 4 = .ok (.iload_n 1, 1) := by decide +kernel
theorem dX10_without_5 : decode cX10_without 5 = .ok (.aload_n 0, 1) := by decide +kernel
theorem dX10_without_6 : decode cX10_without 6 = .ok (.getfield 7, 3) := by decide +kernel
theorem dX10_without_9 : decode cX10_without 9 = .ok (.iconst 0, 1) := by decide +kernel
theorem dX10_without_10 : decode cX10_without 10 = .ok (.iaload, 1) := by decide +kernel
theorem dX10_without_11 : decode cX10_without 11 = .ok (.iconst (-1), 1) := by decide +kernel
theorem dX10_without_12 : decode cX10_without 12 = .ok (.ixor, 1) := by decide +kernel
theorem dX10_without_13 : decode cX10_without 13 = .ok (.iand, 1) := by decide +kernel
theorem dX10_without_14 : decode cX10_without 14 = .ok (.ifCond .eq 7, 3) := by decide +kernel
theorem dX10_without_17 : decode cX10_without 17 = .ok (.iconst (-1), 1) := by decide +kernel
theorem dX10_without_18 : decode cX10_without 18 = .ok (.goto 17, 3) := by decide +kernel
theorem dX10_without_21 : decode cX10_without 21 = .ok (.aload_n 0, 1) := by decide +kernel
theorem dX10_without_22 : decode cX10_without 22 = .ok (.aload_n 0, 1) := by decide +kernel
theorem dX10_without_23 : decode cX10_without 23 = .ok (.getfield 7, 3) := by decide +kernel
theorem dX10_without_26 : decode cX10_without 26 = .ok (.iconst 0, 1) := by decide +kernel
theorem dX10_without_27 : decode cX10_without 27 = .ok (.iaload, 1) := by decide +kernel
theorem dX10_without_28 : decode cX10_without 28 = .ok (.iload_n 1, 1) := by decide +kernel
theorem dX10_without_29 : decode cX10_without 29 = .ok (.iconst (-1), 1) := by decide +kernel
end
section
theorem dX10_without_30 : decode cX10_without 30 = .ok (.ixor, 1) := by decide +kernel
theorem dX10_without_31 : decode cX10_without 31 = .ok (.iand, 1) := by decide +kernel
theorem dX10_without_32 : decode cX10_without 32 = .ok (.invokevirtual 221, 3) := by decide +kernel
theorem dX10_without_35 : decode cX10_without 35 = .ok (.ireturn, 1) := by decide +kernel
theorem dX10_matchAt_0 : decode cX10_matchAt 0 = .ok (.iload_n 2, 1) := by decide +kernel
theorem dX10_matchAt_1 : decode cX10_matchAt 1 = .ok (.iconst 2, 1) := by decide +kernel
theorem dX10_matchAt_2 : decode cX10_matchAt 2 = .ok (.irem, 1) := by decide +kernel
theorem dX10_matchAt_3 : decode cX10_matchAt 3 = .ok (.ifCond .ne 16, 3) := by decide +kernel
theorem dX10_matchAt_6 : decode cX10_matchAt 6 = .ok (.aload_n 0, 1) := by decide +kernel
theorem dX10_matchAt_7 : decode cX10_matchAt 7 = .ok (.iload_n 2, 1) := by decide +kernel
theorem dX10_matchAt_8 : decode cX10_matchAt 8 = .ok (.iconst 2, 1) := by decide +kernel
theorem dX10_matchAt_9 : decode cX10_matchAt 9 = .ok (.idiv, 1) := by decide +kernel
theorem dX10_matchAt_10 : decode cX10_matchAt 10 = .ok (.iload_n 1, 1) := by decide +kernel
theorem dX10_matchAt_11 : decode cX10_matchAt 11 = .ok (.iconst 2, 1) := by decide +kernel
theorem dX10_matchAt_12 : decode cX10_matchAt 12 = .ok (.idiv, 1) := by decide +kernel
theorem dX10_matchAt_13 : decode cX10_matchAt 13 = .ok (.invokevirtual 109, 3) := by decide +kernel
theorem dX10_matchAt_16 : decode cX10_matchAt 16 = .ok (.goto 13, 3) := by decide +kernel
theorem dX10_matchAt_19 : decode cX10_matchAt 19 = .ok (.aload_n 0, 1) := by decide +kernel
theorem dX10_matchAt_20 : decode cX10_matchAt 20 = .ok (.iload_n 2, 1) := by decide +kernel
theorem dX10_matchAt_21 : decode cX10_matchAt 21 = .ok (.iconst 2, 1) := by decide +kernel
theorem dX10_matchAt_22 : decode cX10_matchAt 22 = .ok (.idiv, 1) := by decide +kernel
theorem dX10_matchAt_23 : decode cX10_matchAt 23 = .ok (.iload_n 1, 1) := by decide +kernel
theorem dX10_matchAt_24 : decode cX10_matchAt 24 = .ok (.iconst 2, 1) := by decide +kernel
theorem dX10_matchAt_25 : decode cX10_matchAt 25 = .ok (.idiv, 1) := by decide +kernel
theorem dX10_matchAt_26 : decode cX10_matchAt 26 = .ok (.invokevirtual 113, 3) := by decide +kernel
theorem dX10_matchAt_29 : decode cX10_matchAt 29 = .ok (.ireturn, 1) := by decide +kernel
theorem dX10_turned_0 : decode cX10_turned 0 = .ok (.iload_n 1, 1) := by decide +kernel
theorem dX10_turned_1 : decode cX10_turned 1 = .ok (.aload_n 0, 1) := by decide +kernel
theorem dX10_turned_2 : decode cX10_turned 2 = .ok (.getfield 103, 3) := by decide +kernel
theorem dX10_turned_5 : decode cX10_turned 5 = .ok (.aload_n 0, 1) := by decide +kernel
theorem dX10_turned_6 : decode cX10_turned 6 = .ok (.getfield 106, 3) := by decide +kernel
theorem dX10_turned_9 : decode cX10_turned 9 = .ok (.iconst 1, 1) := by decide +kernel
theorem dX10_turned_10 : decode cX10_turned 10 = .ok (.iadd, 1) := by decide +kernel
theorem dX10_turned_11 : decode cX10_turned 11 = .ok (.imul, 1) := by decide +kernel
theorem dX10_turned_12 : decode cX10_turned 12 = .ok (.if_icmp .ge 7, 3) := by decide +kernel
theorem dX10_turned_15 : decode cX10_turned 15 = .ok (.iconst 1, 1) := by decide +kernel
theorem dX10_turned_16 : decode cX10_turned 16 = .ok (.goto 4, 3) := by decide +kernel
theorem dX10_turned_19 : decode cX10_turned 19 = .ok (.iconst 0, 1) := by decide +kernel
theorem dX10_turned_20 : decode cX10_turned 20 = .ok (.istore_n 3, 1) := by decide +kernel
theorem dX10_turned_21 : decode cX10_turned 21 = .ok (.iload_n 1, 1) := by decide +kernel
theorem dX10_turned_22 : decode cX10_turned 22 = .ok (.aload_n 0, 1) := by decide +kernel
theorem dX10_turned_23 : decode cX10_turned 23 = .ok (.getfield 103, 3) := by decide +kernel
theorem dX10_turned_26 : decode cX10_turned 26 = .ok (.aload_n 0, 1) := by decide +kernel
theorem dX10_turned_27 : decode cX10_turned 27 = .ok (.getfield 106, 3) := by decide +kernel
theorem dX10_turned_30 : decode cX10_turned 30 = .ok (.iconst 1, 1) := by decide +kernel
theorem dX10_turned_31 : decode cX10_turned 31 = .ok (.iadd, 1) := by decide +kernel
theorem dX10_turned_32 : decode cX10_turned 32 = .ok (.imul, 1) := by decide +kernel
theorem dX10_turned_33 : decode cX10_turned 33 = .ok (.isub, 1) := by decide +kernel
theorem dX10_turned_34 : decode cX10_turned 34 = .ok (.istore 4, 2) := by decide +kernel
theorem dX10_turned_36 : decode cX10_turned 36 = .ok (.iload_n 3, 1) := by decide +kernel
theorem dX10_turned_37 : decode cX10_turned 37 = .ok (.ifCond .eq 16, 3) := by decide +kernel
theorem dX10_turned_40 : decode cX10_turned 40 = .ok (.iconst 2, 1) := by decide +kernel
theorem dX10_turned_41 : decode cX10_turned 41 = .ok (.iload_n 1, 1) := by decide +kernel
theorem dX10_turned_42 : decode cX10_turned 42 = .ok (.aload_n 0, 1) := by decide +kernel
theorem dX10_turned_43 : decode cX10_turned 43 = .ok (.getfield 103, 3) := by decide +kernel
theorem dX10_turned_46 : decode cX10_turned 46 = .ok (.irem, 1) := by decide +kernel
theorem dX10_turned_47 : decode cX10_turned 47 = .ok (.imul, 1) := by decide +kernel
theorem dX10_turned_48 : decode cX10_turned 48 = .ok (.iconst 1, 1) := by decide +kernel
theorem dX10_turned_49 : decode cX10_turned 49 = .ok (.iadd, 1) := by decide +kernel
theorem dX10_turned_50 : decode cX10_turned 50 = .ok (.goto 14, 3) := by decide +kernel
theorem dX10_turned_53 : decode cX10_turned 53 = .ok (.iconst 2, 1) := by decide +kernel
theorem dX10_turned_54 : decode cX10_turned 54 = .ok (.iload 4, 2) := by decide +kernel
theorem dX10_turned_56 : decode cX10_turned 56 = .ok (.aload_n 0, 1) := by decide +kernel
theorem dX10_turned_57 : decode cX10_turned 57 = .ok (.getfield 103, 3) := by decide +kernel
theorem dX10_turned_60 : decode cX10_turned 60 = .ok (.iconst 1, 1) := by decide +kernel
theorem dX10_turned_61 : decode cX10_turned 61 = .ok (.iadd, 1) := by decide +kernel
theorem dX10_turned_62 : decode cX10_turned 62 = .ok (.irem, 1) := by decide +kernel
theorem dX10_turned_63 : decode cX10_turned 63 = .ok (.imul, 1) := by decide +kernel
theorem dX10_turned_64 : decode cX10_turned 64 = .ok (.istore 5, 2) := by decide +kernel
theorem dX10_turned_66 : decode cX10_turned 66 = .ok (.iload_n 3, 1) := by decide +kernel
theorem dX10_turned_67 : decode cX10_turned 67 = .ok (.ifCond .eq 14, 3) := by decide +kernel
theorem dX10_turned_70 : decode cX10_turned 70 = .ok (.iconst 2, 1) := by decide +kernel
theorem dX10_turned_71 : decode cX10_turned 71 = .ok (.iload_n 1, 1) := by decide +kernel
theorem dX10_turned_72 : decode cX10_turned 72 = .ok (.aload_n 0, 1) := by decide +kernel
theorem dX10_turned_73 : decode cX10_turned 73 = .ok (.getfield 103, 3) := by decide +kernel
theorem dX10_turned_76 : decode cX10_turned 76 = .ok (.idiv, 1) := by decide +kernel
theorem dX10_turned_77 : decode cX10_turned 77 = .ok (.imul, 1) := by decide +kernel
theorem dX10_turned_78 : decode cX10_turned 78 = .ok (.goto 16, 3) := by decide +kernel
theorem dX10_turned_81 : decode cX10_turned 81 = .ok (.iconst 2, 1) := by decide +kernel
theorem dX10_turned_82 : decode cX10_turned 82 = .ok (.iload 4, 2) := by decide +kernel
theorem dX10_turned_84 : decode cX10_turned 84 = .ok (.aload_n 0, 1) := by decide +kernel
theorem dX10_turned_85 : decode cX10_turned 85 = .ok (.getfield 103, 3) := by decide +kernel
theorem dX10_turned_88 : decode cX10_turned 88 = .ok (.iconst 1, 1) := by decide +kernel
theorem dX10_turned_89 : decode cX10_turned 89 = .ok (.iadd, 1) := by decide +kernel
theorem dX10_turned_90 : decode cX10_turned 90 = .ok (.idiv, 1) := by decide +kernel
theorem dX10_turned_91 : decode cX10_turned 91 = .ok (.imul, 1) := by decide +kernel
theorem dX10_turned_92 : decode cX10_turned 92 = .ok (.iconst 1, 1) := by decide +kernel
theorem dX10_turned_93 : decode cX10_turned 93 = .ok (.iadd, 1) := by decide +kernel
theorem dX10_turned_94 : decode cX10_turned 94 = .ok (.istore 6, 2) := by decide +kernel
theorem dX10_turned_96 : decode cX10_turned 96 = .ok (.iload_n 2, 1) := by decide +kernel
theorem dX10_turned_97 : decode cX10_turned 97 = .ok (.iconst 1, 1) := by decide +kernel
theorem dX10_turned_98 : decode cX10_turned 98 = .ok (.iand, 1) := by decide +kernel
theorem dX10_turned_99 : decode cX10_turned 99 = .ok (.iconst 1, 1) := by decide +kernel
theorem dX10_turned_100 : decode cX10_turned 100 = .ok (.if_icmp .ne 15, 3) := by decide +kernel
theorem dX10_turned_103 : decode cX10_turned 103 = .ok (.iconst 2, 1) := by decide +kernel
theorem dX10_turned_104 : decode cX10_turned 104 = .ok (.aload_n 0, 1) := by decide +kernel
theorem dX10_turned_105 : decode cX10_turned 105 = .ok (.getfield 103, 3) := by decide +kernel
theorem dX10_turned_108 : decode cX10_turned 108 = .ok (.imul, 1) := by decide +kernel
theorem dX10_turned_109 : decode cX10_turned 109 = .ok (.iload 5, 2) := by decide +kernel
theorem dX10_turned_111 : decode cX10_turned 111 = .ok (.isub, 1) := by decide +kernel
theorem dX10_turned_112 : decode cX10_turned 112 = .ok (.goto 5, 3) := by decide +kernel
theorem dX10_turned_115 : decode cX10_turned 115 = .ok (.iload 5, 2) := by decide +kernel
theorem dX10_turned_117 : decode cX10_turned 117 = .ok (.istore 5, 2) := by decide +kernel
theorem dX10_turned_119 : decode cX10_turned 119 = .ok (.iload_n 2, 1) := by decide +kernel
theorem dX10_turned_120 : decode cX10_turned 120 = .ok (.iconst 2, 1) := by decide +kernel
theorem dX10_turned_121 : decode cX10_turned 121 = .ok (.iand, 1) := by decide +kernel
theorem dX10_turned_122 : decode cX10_turned 122 = .ok (.iconst 2, 1) := by decide +kernel
theorem dX10_turned_123 : decode cX10_turned 123 = .ok (.if_icmp .ne 15, 3) := by decide +kernel
theorem dX10_turned_126 : decode cX10_turned 126 = .ok (.iconst 2, 1) := by decide +kernel
theorem dX10_turned_127 : decode cX10_turned 127 = .ok (.aload_n 0, 1) := by decide +kernel
theorem dX10_turned_128 : decode cX10_turned 128 = .ok (.getfield 106, 3) := by decide +kernel
theorem dX10_turned_131 : decode cX10_turned 131 = .ok (.imul, 1) := by decide +kernel
theorem dX10_turned_132 : decode cX10_turned 132 = .ok (.iload 6, 2) := by decide +kernel
theorem dX10_turned_134 : decode cX10_turned 134 = .ok (.isub, 1) := by decide +kernel
theorem dX10_turned_135 : decode cX10_turned 135 = .ok (.goto 5, 3) := by decide +kernel
theorem dX10_turned_138 : decode cX10_turned 138 = .ok (.iload 6, 2) := by decide +kernel
theorem dX10_turned_140 : decode cX10_turned 140 = .ok (.istore 6, 2) := by decide +kernel
theorem dX10_turned_142 : decode cX10_turned 142 = .ok (.iload_n 2, 1) := by decide +kernel
theorem dX10_turned_143 : decode cX10_turned 143 = .ok (.iconst 4, 1) := by decide +kernel
theorem dX10_turned_144 : decode cX10_turned 144 = .ok (.iand, 1) := by decide +kernel
theorem dX10_turned_145 : decode cX10_turned 145 = .ok (.iconst 4, 1) := by decide +kernel
theorem dX10_turned_146 : decode cX10_turned 146 = .ok (.if_icmp .ne 14, 3) := by decide +kernel
theorem dX10_turned_149 : decode cX10_turned 149 = .ok (.aload_n 0, 1) := by decide +kernel
theorem dX10_turned_150 : decode cX10_turned 150 = .ok (.iload 6, 2) := by decide +kernel
theorem dX10_turned_152 : decode cX10_turned 152 = .ok (.iload 5, 2) := by decide +kernel
theorem dX10_turned_154 : decode cX10_turned 154 = .ok (.invokevirtual 255, 3) := by decide +kernel
theorem dX10_turned_157 : decode cX10_turned 157 = .ok (.goto 11, 3) := by decide +kernel
theorem dX10_turned_160 : decode cX10_turned 160 = .ok (.aload_n 0, 1) := by decide +kernel
theorem dX10_turned_161 : decode cX10_turned 161 = .ok (.iload 5, 2) := by decide +kernel
theorem dX10_turned_163 : decode cX10_turned 163 = .ok (.iload 6, 2) := by decide +kernel
theorem dX10_turned_165 : decode cX10_turned 165 = .ok (.invokevirtual 255, 3) := by decide +kernel
theorem dX10_turned_168 : decode cX10_turned 168 = .ok (.ireturn, 1) := by decide +kernel
theorem dX10_turnedSet_0 : decode cX10_turnedSet 0 = .ok (.iconst 0, 1) := by decide +kernel
theorem dX10_turnedSet_1 : decode cX10_turnedSet 1 = .ok (.istore_n 3, 1) := by decide +kernel
theorem dX10_turnedSet_2 : decode cX10_turnedSet 2 = .ok (.iconst 0, 1) := by decide +kernel
theorem dX10_turnedSet_3 : decode cX10_turnedSet 3 = .ok (.istore 4, 2) := by decide +kernel
theorem dX10_turnedSet_5 : decode cX10_turnedSet 5 = .ok (.iload 4, 2) := by decide +kernel
theorem dX10_turnedSet_7 : decode cX10_turnedSet 7 = .ok (.aload_n 0, 1) := by decide +kernel
theorem dX10_turnedSet_8 : decode cX10_turnedSet 8 = .ok (.getfield 123, 3) := by decide +kernel
theorem dX10_turnedSet_11 : decode cX10_turnedSet 11 = .ok (.if_icmp .ge 26, 3) := by decide +kernel
theorem dX10_turnedSet_14 : decode cX10_turnedSet 14 = .ok (.iload_n 3, 1) := by decide +kernel
theorem dX10_turnedSet_15 : decode cX10_turnedSet 15 = .ok (.iload_n 1, 1) := by decide +kernel
theorem dX10_turnedSet_16 : decode cX10_turnedSet 16 = .ok (.iload 4, 2) := by decide +kernel
theorem dX10_turnedSet_18 : decode cX10_turnedSet 18 = .ok (.ishr, 1) := by decide +kernel
theorem dX10_turnedSet_19 : decode cX10_turnedSet 19 = .ok (.iconst 1, 1) := by decide +kernel
theorem dX10_turnedSet_20 : decode cX10_turnedSet 20 = .ok (.iand, 1) := by decide +kernel
theorem dX10_turnedSet_21 : decode cX10_turnedSet 21 = .ok (.aload_n 0, 1) := by decide +kernel
theorem dX10_turnedSet_22 : decode cX10_turnedSet 22 = .ok (.iload 4, 2) := by decide +kernel
theorem dX10_turnedSet_24 : decode cX10_turnedSet 24 = .ok (.iload_n 2, 1) := by decide +kernel
theorem dX10_turnedSet_25 : decode cX10_turnedSet 25 = .ok (.invokevirtual 258, 3) := by decide +kernel
theorem dX10_turnedSet_28 : decode cX10_turnedSet 28 = .ok (.ishl, 1) := by decide +kernel
theorem dX10_turnedSet_29 : decode cX10_turnedSet 29 = .ok (.ior, 1) := by decide +kernel
theorem dX10_turnedSet_30 : decode cX10_turnedSet 30 = .ok (.istore_n 3, 1) := by decide +kernel
theorem dX10_turnedSet_31 : decode cX10_turnedSet 31 = .ok (.iinc 4 1, 3) := by decide +kernel
theorem dX10_turnedSet_34 : decode cX10_turnedSet 34 = .ok (.goto (-29), 3) := by decide +kernel
theorem dX10_turnedSet_37 : decode cX10_turnedSet 37 = .ok (.iload_n 3, 1) := by decide +kernel
theorem dX10_turnedSet_38 : decode cX10_turnedSet 38 = .ok (.ireturn, 1) := by decide +kernel
theorem dX10_isSet_0 : decode cX10_isSet 0 = .ok (.iload_n 1, 1) := by decide +kernel
theorem dX10_isSet_1 : decode cX10_isSet 1 = .ok (.ifCond .lt 26, 3) := by decide +kernel
theorem dX10_isSet_4 : decode cX10_isSet 4 = .ok (.aload_n 0, 1) := by decide +kernel
theorem dX10_isSet_5 : decode cX10_isSet 5 = .ok (.getfield 123, 3) := by decide +kernel
theorem dX10_isSet_8 : decode cX10_isSet 8 = .ok (.bipush 31, 2) := by decide +kernel
theorem dX10_isSet_10 : decode cX10_isSet 10 = .ok (.if_icmp .eq 13, 3) := by decide +kernel
theorem dX10_isSet_13 : decode cX10_isSet 13 = .ok (.iload_n 1, 1) := by decide +kernel
theorem dX10_isSet_14 : decode cX10_isSet 14 = .ok (.iconst 1, 1) := by decide +kernel
theorem dX10_isSet_15 : decode cX10_isSet 15 = .ok (.aload_n 0, 1) := by decide +kernel
theorem dX10_isSet_16 : decode cX10_isSet 16 = .ok (.getfield 123, 3) := by decide +kernel
theorem dX10_isSet_19 : decode cX10_isSet 19 = .ok (.ishl, 1) := by decide +kernel
theorem dX10_isSet_20 : decode cX10_isSet 20 = .ok (.if_icmp .ge 7, 3) := by decide +kernel
theorem dX10_isSet_23 : decode cX10_isSet 23 = .ok (.iconst 1, 1) := by decide +kernel
theorem dX10_isSet_24 : decode cX10_isSet 24 = .ok (.goto 4, 3) := by decide +kernel
theorem dX10_isSet_27 : decode cX10_isSet 27 = .ok (.iconst 0, 1) := by decide +kernel
theorem dX10_isSet_28 : decode cX10_isSet 28 = .ok (.ireturn, 1) := by decide +kernel
theorem dX10_alike_0 : decode cX10_alike 0 = .ok (.aload_n 0, 1) := by decide +kernel
theorem dX10_alike_1 : decode cX10_alike 1 = .ok (.iload_n 1, 1) := by decide +kernel
theorem dX10_alike_2 : decode cX10_alike 2 = .ok (.invokevirtual 261, 3) := by decide +kernel
theorem dX10_alike_5 : decode cX10_alike 5 = .ok (.ifCond .eq 11, 3) := by decide +kernel
theorem dX10_alike_8 : decode cX10_alike 8 = .ok (.aload_n 0, 1) := by decide +kernel
theorem dX10_alike_9 : decode cX10_alike 9 = .ok (.iload_n 2, 1) := by decide +kernel
theorem dX10_alike_10 : decode cX10_alike 10 = .ok (.invokevirtual 261, 3) := by decide +kernel
theorem dX10_alike_13 : decode cX10_alike 13 = .ok (.ifCond .ne 5, 3) := by decide +kernel
theorem dX10_alike_16 : decode cX10_alike 16 = .ok (.iconst (-1), 1) := by decide +kernel
theorem dX10_alike_17 : decode cX10_alike 17 = .ok (.ireturn, 1) := by decide +kernel
theorem dX10_alike_18 : decode cX10_alike 18 = .ok (.iconst 0, 1) := by decide +kernel
theorem dX10_alike_19 : decode cX10_alike 19 = .ok (.istore_n 3, 1) := by decide +kernel
theorem dX10_alike_20 : decode cX10_alike 20 = .ok (.iconst 0, 1) := by decide +kernel
theorem dX10_alike_21 : decode cX10_alike 21 = .ok (.istore 4, 2) := by decide +kernel
theorem dX10_alike_23 : decode cX10_alike 23 = .ok (.iload 4, 2) := by decide +kernel
theorem dX10_alike_25 : decode cX10_alike 25 = .ok (.aload_n 0, 1) := by decide +kernel
theorem dX10_alike_26 : decode cX10_alike 26 = .ok (.getfield 103, 3) := by decide +kernel
theorem dX10_alike_29 : decode cX10_alike 29 = .ok (.aload_n 0, 1) := by decide +kernel
theorem dX10_alike_30 : decode cX10_alike 30 = .ok (.getfield 106, 3) := by decide +kernel
theorem dX10_alike_33 : decode cX10_alike 33 = .ok (.if_icmp .ne 8, 3) := by decide +kernel
theorem dX10_alike_36 : decode cX10_alike 36 = .ok (.bipush 8, 2) := by decide +kernel
theorem dX10_alike_38 : decode cX10_alike 38 = .ok (.goto 4, 3) := by decide +kernel
theorem dX10_alike_41 : decode cX10_alike 41 = .ok (.iconst 4, 1) := by decide +kernel
theorem dX10_alike_42 : decode cX10_alike 42 = .ok (.if_icmp .ge 30, 3) := by decide +kernel
theorem dX10_alike_45 : decode cX10_alike 45 = .ok (.iload_n 3, 1) := by decide +kernel
theorem dX10_alike_46 : decode cX10_alike 46 = .ok (.ifCond .ne 14, 3) := by decide +kernel
theorem dX10_alike_49 : decode cX10_alike 49 = .ok (.aload_n 0, 1) := by decide +kernel
theorem dX10_alike_50 : decode cX10_alike 50 = .ok (.iload_n 1, 1) := by decide +kernel
theorem dX10_alike_51 : decode cX10_alike 51 = .ok (.iload 4, 2) := by decide +kernel
theorem dX10_alike_53 : decode cX10_alike 53 = .ok (.invokevirtual 264, 3) := by decide +kernel
theorem dX10_alike_56 : decode cX10_alike 56 = .ok (.iload_n 2, 1) := by decide +kernel
theorem dX10_alike_57 : decode cX10_alike 57 = .ok (.if_icmp .ne 7, 3) := by decide +kernel
theorem dX10_alike_60 : decode cX10_alike 60 = .ok (.iconst 1, 1) := by decide +kernel
theorem dX10_alike_61 : decode cX10_alike 61 = .ok (.goto 4, 3) := by decide +kernel
theorem dX10_alike_64 : decode cX10_alike 64 = .ok (.iconst 0, 1) := by decide +kernel
theorem dX10_alike_65 : decode cX10_alike 65 = .ok (.istore_n 3, 1) := by decide +kernel
theorem dX10_alike_66 : decode cX10_alike 66 = .ok (.iinc 4 1, 3) := by decide +kernel
theorem dX10_alike_69 : decode cX10_alike 69 = .ok (.goto (-46), 3) := by decide +kernel
theorem dX10_alike_72 : decode cX10_alike 72 = .ok (.iload_n 3, 1) := by decide +kernel
theorem dX10_alike_73 : decode cX10_alike 73 = .ok (.invokestatic 209, 3) := by decide +kernel
theorem dX10_alike_76 : decode cX10_alike 76 = .ok (.ireturn, 1) := by decide +kernel
theorem dX10_findSome_0 : decode cX10_findSome 0 = .ok (.aload_n 0, 1) := by decide +kernel
theorem dX10_findSome_1 : decode cX10_findSome 1 = .ok (.iconst 0, 1) := by decide +kernel
theorem dX10_findSome_2 : decode cX10_findSome 2 = .ok (.putfield 267, 3) := by decide +kernel
theorem dX10_findSome_5 : decode cX10_findSome 5 = .ok (.iconst 0, 1) := by decide +kernel
theorem dX10_findSome_6 : decode cX10_findSome 6 = .ok (.istore_n 2, 1) := by decide +kernel
theorem dX10_findSome_7 : decode cX10_findSome 7 = .ok (.iload_n 2, 1) := by decide +kernel
theorem dX10_findSome_8 : decode cX10_findSome 8 = .ok (.aload_n 0, 1) := by decide +kernel
theorem dX10_findSome_9 : decode cX10_findSome 9 = .ok (.getfield 123, 3) := by decide +kernel
theorem dX10_findSome_12 : decode cX10_findSome 12 = .ok (.if_icmp .ge 38, 3) := by decide +kernel
theorem dX10_findSome_15 : decode cX10_findSome 15 = .ok (.iload_n 1, 1) := by decide +kernel
theorem dX10_findSome_16 : decode cX10_findSome 16 = .ok (.iload_n 2, 1) := by decide +kernel
theorem dX10_findSome_17 : decode cX10_findSome 17 = .ok (.ishr, 1) := by decide +kernel
theorem dX10_findSome_18 : decode cX10_findSome 18 = .ok (.iconst 1, 1) := by decide +kernel
theorem dX10_findSome_19 : decode cX10_findSome 19 = .ok (.iand, 1) := by decide +kernel
theorem dX10_findSome_20 : decode cX10_findSome 20 = .ok (.iconst 1, 1) := by decide +kernel
theorem dX10_findSome_21 : decode cX10_findSome 21 = .ok (.if_icmp .ne 23, 3) := by decide +kernel
theorem dX10_findSome_24 : decode cX10_findSome 24 = .ok (.aload_n 0, 1) := by decide +kernel
theorem dX10_findSome_25 : decode cX10_findSome 25 = .ok (.getfield 53, 3) := by decide +kernel
theorem dX10_findSome_28 : decode cX10_findSome 28 = .ok (.aload_n 0, 1) := by decide +kernel
theorem dX10_findSome_29 : decode cX10_findSome 29 = .ok (.getfield 267, 3) := by decide +kernel
theorem dX10_findSome_32 : decode cX10_findSome 32 = .ok (.iload_n 2, 1) := by decide +kernel
theorem dX10_findSome_33 : decode cX10_findSome 33 = .ok (.iastore, 1) := by decide +kernel
theorem dX10_findSome_34 : decode cX10_findSome 34 = .ok (.aload_n 0, 1) := by decide +kernel
theorem dX10_findSome_35 : decode cX10_findSome 35 = .ok (.dup, 1) := by decide +kernel
theorem dX10_findSome_36 : decode cX10_findSome 36 = .ok (.getfield 267, 3) := by decide +kernel
theorem dX10_findSome_39 : decode cX10_findSome 39 = .ok (.iconst 1, 1) := by decide +kernel
theorem dX10_findSome_40 : decode cX10_findSome 40 = .ok (.iadd, 1) := by decide +kernel
theorem dX10_findSome_41 : decode cX10_findSome 41 = .ok (.putfield 267, 3) := by decide +kernel
theorem dX10_findSome_44 : decode cX10_findSome 44 = .ok (.iinc 2 1, 3) := by decide +kernel
theorem dX10_findSome_47 : decode cX10_findSome 47 = .ok (.goto (-40), 3) := by decide +kernel
theorem dX10_findSome_50 : decode cX10_findSome 50 = .ok (.return_, 1) := by decide +kernel
theorem dX10_firstOf_0 : decode cX10_firstOf 0 = .ok (.iconst 0, 1) := by decide +kernel
theorem dX10_firstOf_1 : decode cX10_firstOf 1 = .ok (.istore_n 2, 1) := by decide +kernel
theorem dX10_firstOf_2 : decode cX10_firstOf 2 = .ok (.iload_n 2, 1) := by decide +kernel
theorem dX10_firstOf_3 : decode cX10_firstOf 3 = .ok (.iload_n 1, 1) := by decide +kernel
theorem dX10_firstOf_4 : decode cX10_firstOf 4 = .ok (.if_icmp .ge 16, 3) := by decide +kernel
theorem dX10_firstOf_7 : decode cX10_firstOf 7 = .ok (.aload_n 0, 1) := by decide +kernel
theorem dX10_firstOf_8 : decode cX10_firstOf 8 = .ok (.getfield 56, 3) := by decide +kernel
theorem dX10_firstOf_11 : decode cX10_firstOf 11 = .ok (.iload_n 2, 1) := by decide +kernel
theorem dX10_firstOf_12 : decode cX10_firstOf 12 = .ok (.iload_n 2, 1) := by decide +kernel
theorem dX10_firstOf_13 : decode cX10_firstOf 13 = .ok (.iastore, 1) := by decide +kernel
theorem dX10_firstOf_14 : decode cX10_firstOf 14 = .ok (.iinc 2 1, 3) := by decide +kernel
theorem dX10_firstOf_17 : decode cX10_firstOf 17 = .ok (.goto (-15), 3) := by decide +kernel
theorem dX10_firstOf_20 : decode cX10_firstOf 20 = .ok (.return_, 1) := by decide +kernel
theorem dX10_setNow_0 : decode cX10_setNow 0 = .ok (.iconst 0, 1) := by decide +kernel
theorem dX10_setNow_1 : decode cX10_setNow 1 = .ok (.istore_n 2, 1) := by decide +kernel
theorem dX10_setNow_2 : decode cX10_setNow 2 = .ok (.iconst 0, 1) := by decide +kernel
theorem dX10_setNow_3 : decode cX10_setNow 3 = .ok (.istore_n 3, 1) := by decide +kernel
theorem dX10_setNow_4 : decode cX10_setNow 4 = .ok (.iload_n 3, 1) := by decide +kernel
theorem dX10_setNow_5 : decode cX10_setNow 5 = .ok (.iload_n 1, 1) := by decide +kernel
theorem dX10_setNow_6 : decode cX10_setNow 6 = .ok (.if_icmp .ge 25, 3) := by decide +kernel
theorem dX10_setNow_9 : decode cX10_setNow 9 = .ok (.iload_n 2, 1) := by decide +kernel
theorem dX10_setNow_10 : decode cX10_setNow 10 = .ok (.iconst 1, 1) := by decide +kernel
theorem dX10_setNow_11 : decode cX10_setNow 11 = .ok (.aload_n 0, 1) := by decide +kernel
theorem dX10_setNow_12 : decode cX10_setNow 12 = .ok (.getfield 53, 3) := by decide +kernel
theorem dX10_setNow_15 : decode cX10_setNow 15 = .ok (.aload_n 0, 1) := by decide +kernel
theorem dX10_setNow_16 : decode cX10_setNow 16 = .ok (.getfield 56, 3) := by decide +kernel
theorem dX10_setNow_19 : decode cX10_setNow 19 = .ok (.iload_n 3, 1) := by decide +kernel
theorem dX10_setNow_20 : decode cX10_setNow 20 = .ok (.iaload, 1) := by decide +kernel
theorem dX10_setNow_21 : decode cX10_setNow 21 = .ok (.iaload, 1) := by decide +kernel
theorem dX10_setNow_22 : decode cX10_setNow 22 = .ok (.ishl, 1) := by decide +kernel
theorem dX10_setNow_23 : decode cX10_setNow 23 = .ok (.ior, 1) := by decide +kernel
theorem dX10_setNow_24 : decode cX10_setNow 24 = .ok (.istore_n 2, 1) := by decide +kernel
theorem dX10_setNow_25 : decode cX10_setNow 25 = .ok (.iinc 3 1, 3) := by decide +kernel
theorem dX10_setNow_28 : decode cX10_setNow 28 = .ok (.goto (-24), 3) := by decide +kernel
theorem dX10_setNow_31 : decode cX10_setNow 31 = .ok (.iload_n 2, 1) := by decide +kernel
theorem dX10_setNow_32 : decode cX10_setNow 32 = .ok (.ireturn, 1) := by decide +kernel
theorem dX10_nextOf_0 : decode cX10_nextOf 0 = .ok (.iload_n 1, 1) := by decide +kernel
theorem dX10_nextOf_1 : decode cX10_nextOf 1 = .ok (.iconst 1, 1) := by decide +kernel
theorem dX10_nextOf_2 : decode cX10_nextOf 2 = .ok (.isub, 1) := by decide +kernel
theorem dX10_nextOf_3 : decode cX10_nextOf 3 = .ok (.istore_n 2, 1) := by decide +kernel
theorem dX10_nextOf_4 : decode cX10_nextOf 4 = .ok (.iload_n 2, 1) := by decide +kernel
theorem dX10_nextOf_5 : decode cX10_nextOf 5 = .ok (.ifCond .lt 26, 3) := by decide +kernel
theorem dX10_nextOf_8 : decode cX10_nextOf 8 = .ok (.aload_n 0, 1) := by decide +kernel
theorem dX10_nextOf_9 : decode cX10_nextOf 9 = .ok (.getfield 56, 3) := by decide +kernel
theorem dX10_nextOf_12 : decode cX10_nextOf 12 = .ok (.iload_n 2, 1) := by decide +kernel
theorem dX10_nextOf_13 : decode cX10_nextOf 13 = .ok (.iaload, 1) := by decide +kernel
theorem dX10_nextOf_14 : decode cX10_nextOf 14 = .ok (.aload_n 0, 1) := by decide +kernel
theorem dX10_nextOf_15 : decode cX10_nextOf 15 = .ok (.getfield 267, 3) := by decide +kernel
theorem dX10_nextOf_18 : decode cX10_nextOf 18 = .ok (.iload_n 1, 1) := by decide +kernel
theorem dX10_nextOf_19 : decode cX10_nextOf 19 = .ok (.isub, 1) := by decide +kernel
theorem dX10_nextOf_20 : decode cX10_nextOf 20 = .ok (.iload_n 2, 1) := by decide +kernel
theorem dX10_nextOf_21 : decode cX10_nextOf 21 = .ok (.iadd, 1) := by decide +kernel
theorem dX10_nextOf_22 : decode cX10_nextOf 22 = .ok (.if_icmp .ne 9, 3) := by decide +kernel
theorem dX10_nextOf_25 : decode cX10_nextOf 25 = .ok (.iinc 2 (-1), 3) := by decide +kernel
theorem dX10_nextOf_28 : decode cX10_nextOf 28 = .ok (.goto (-24), 3) := by decide +kernel
theorem dX10_nextOf_31 : decode cX10_nextOf 31 = .ok (.iload_n 2, 1) := by decide +kernel
theorem dX10_nextOf_32 : decode cX10_nextOf 32 = .ok (.ifCond .ge 5, 3) := by decide +kernel
theorem dX10_nextOf_35 : decode cX10_nextOf 35 = .ok (.iconst 0, 1) := by decide +kernel
theorem dX10_nextOf_36 : decode cX10_nextOf 36 = .ok (.ireturn, 1) := by decide +kernel
theorem dX10_nextOf_37 : decode cX10_nextOf 37 = .ok (.aload_n 0, 1) := by decide +kernel
theorem dX10_nextOf_38 : decode cX10_nextOf 38 = .ok (.getfield 56, 3) := by decide +kernel
theorem dX10_nextOf_41 : decode cX10_nextOf 41 = .ok (.iload_n 2, 1) := by decide +kernel
theorem dX10_nextOf_42 : decode cX10_nextOf 42 = .ok (.dup2, 1) := by decide +kernel
theorem dX10_nextOf_43 : decode cX10_nextOf 43 = .ok (.iaload, 1) := by decide +kernel
theorem dX10_nextOf_44 : decode cX10_nextOf 44 = .ok (.iconst 1, 1) := by decide +kernel
theorem dX10_nextOf_45 : decode cX10_nextOf 45 = .ok (.iadd, 1) := by decide +kernel
theorem dX10_nextOf_46 : decode cX10_nextOf 46 = .ok (.iastore, 1) := by decide +kernel
theorem dX10_nextOf_47 : decode cX10_nextOf 47 = .ok (.iload_n 2, 1) := by decide +kernel
theorem dX10_nextOf_48 : decode cX10_nextOf 48 = .ok (.iconst 1, 1) := by decide +kernel
theorem dX10_nextOf_49 : decode cX10_nextOf 49 = .ok (.iadd, 1) := by decide +kernel
theorem dX10_nextOf_50 : decode cX10_nextOf 50 = .ok (.istore_n 3, 1) := by decide +kernel
theorem dX10_nextOf_51 : decode cX10_nextOf 51 = .ok (.iload_n 3, 1) := by decide +kernel
theorem dX10_nextOf_52 : decode cX10_nextOf 52 = .ok (.iload_n 1, 1) := by decide +kernel
theorem dX10_nextOf_53 : decode cX10_nextOf 53 = .ok (.if_icmp .ge 25, 3) := by decide +kernel
theorem dX10_nextOf_56 : decode cX10_nextOf 56 = .ok (.aload_n 0, 1) := by decide +kernel
theorem dX10_nextOf_57 : decode cX10_nextOf 57 = .ok (.getfield 56, 3) := by decide +kernel
theorem dX10_nextOf_60 : decode cX10_nextOf 60 = .ok (.iload_n 3, 1) := by decide +kernel
theorem dX10_nextOf_61 : decode cX10_nextOf 61 = .ok (.aload_n 0, 1) := by decide +kernel
theorem dX10_nextOf_62 : decode cX10_nextOf 62 = .ok (.getfield 56, 3) := by decide +kernel
theorem dX10_nextOf_65 : decode cX10_nextOf 65 = .ok (.iload_n 3, 1) := by decide +kernel
theorem dX10_nextOf_66 : decode cX10_nextOf 66 = .ok (.iconst 1, 1) := by decide +kernel
theorem dX10_nextOf_67 : decode cX10_nextOf 67 = .ok (.isub, 1) := by decide +kernel
theorem dX10_nextOf_68 : decode cX10_nextOf 68 = .ok (.iaload, 1) := by decide +kernel
theorem dX10_nextOf_69 : decode cX10_nextOf 69 = .ok (.iconst 1, 1) := by decide +kernel
theorem dX10_nextOf_70 : decode cX10_nextOf 70 = .ok (.iadd, 1) := by decide +kernel
theorem dX10_nextOf_71 : decode cX10_nextOf 71 = .ok (.iastore, 1) := by decide +kernel
theorem dX10_nextOf_72 : decode cX10_nextOf 72 = .ok (.iinc 3 1, 3) := by decide +kernel
theorem dX10_nextOf_75 : decode cX10_nextOf 75 = .ok (.goto (-24), 3) := by decide +kernel
theorem dX10_nextOf_78 : decode cX10_nextOf 78 = .ok (.iconst 1, 1) := by decide +kernel
theorem dX10_nextOf_79 : decode cX10_nextOf 79 = .ok (.ireturn, 1) := by decide +kernel
theorem dX10_allOutside_0 : decode cX10_allOutside 0 = .ok (.iconst 0, 1) := by decide +kernel
theorem dX10_allOutside_1 : decode cX10_allOutside 1 = .ok (.istore_n 1, 1) := by decide +kernel
theorem dX10_allOutside_2 : decode cX10_allOutside 2 = .ok (.iconst 0, 1) := by decide +kernel
theorem dX10_allOutside_3 : decode cX10_allOutside 3 = .ok (.istore_n 2, 1) := by decide +kernel
theorem dX10_allOutside_4 : decode cX10_allOutside 4 = .ok (.iload_n 2, 1) := by decide +kernel
theorem dX10_allOutside_5 : decode cX10_allOutside 5 = .ok (.aload_n 0, 1) := by decide +kernel
theorem dX10_allOutside_6 : decode cX10_allOutside 6 = .ok (.getfield 123, 3) := by decide +kernel
theorem dX10_allOutside_9 : decode cX10_allOutside 9 = .ok (.if_icmp .ge 15, 3) := by decide +kernel
theorem dX10_allOutside_12 : decode cX10_allOutside 12 = .ok (.iload_n 1, 1) := by decide +kernel
theorem dX10_allOutside_13 : decode cX10_allOutside 13 = .ok (.iconst 1, 1) := by decide +kernel
theorem dX10_allOutside_14 : decode cX10_allOutside 14 = .ok (.iload_n 2, 1) := by decide +kernel
theorem dX10_allOutside_15 : decode cX10_allOutside 15 = .ok (.ishl, 1) := by decide +kernel
theorem dX10_allOutside_16 : decode cX10_allOutside 16 = .ok (.ior, 1) := by decide +kernel
theorem dX10_allOutside_17 : decode cX10_allOutside 17 = .ok (.istore_n 1, 1) := by decide +kernel
theorem dX10_allOutside_18 : decode cX10_allOutside 18 = .ok (.iinc 2 1, 3) := by decide +kernel
theorem dX10_allOutside_21 : decode cX10_allOutside 21 = .ok (.goto (-17), 3) := by decide +kernel
theorem dX10_allOutside_24 : decode cX10_allOutside 24 = .ok (.iload_n 1, 1) := by decide +kernel
theorem dX10_allOutside_25 : decode cX10_allOutside 25 = .ok (.aload_n 0, 1) := by decide +kernel
theorem dX10_allOutside_26 : decode cX10_allOutside 26 = .ok (.getfield 7, 3) := by decide +kernel
theorem dX10_allOutside_29 : decode cX10_allOutside 29 = .ok (.iconst 0, 1) := by decide +kernel
theorem dX10_allOutside_30 : decode cX10_allOutside 30 = .ok (.iaload, 1) := by decide +kernel
theorem dX10_allOutside_31 : decode cX10_allOutside 31 = .ok (.iconst (-1), 1) := by decide +kernel
theorem dX10_allOutside_32 : decode cX10_allOutside 32 = .ok (.ixor, 1) := by decide +kernel
theorem dX10_allOutside_33 : decode cX10_allOutside 33 = .ok (.iand, 1) := by decide +kernel
theorem dX10_allOutside_34 : decode cX10_allOutside 34 = .ok (.ireturn, 1) := by decide +kernel
theorem dX10_between_0 : decode cX10_between 0 = .ok (.iload_n 1, 1) := by decide +kernel
theorem dX10_between_1 : decode cX10_between 1 = .ok (.i2l, 1) := by decide +kernel
theorem dX10_between_2 : decode cX10_between 2 = .ok (.lconst 0, 1) := by decide +kernel
theorem dX10_between_3 : decode cX10_between 3 = .ok (.ldc2_w 270, 3) := by decide +kernel
theorem dX10_between_6 : decode cX10_between 6 = .ok (.invokestatic 134, 3) := by decide +kernel
theorem dX10_between_9 : decode cX10_between 9 = .ok (.ifCond .ne 5, 3) := by decide +kernel
theorem dX10_between_12 : decode cX10_between 12 = .ok (.iconst (-1), 1) := by decide +kernel
theorem dX10_between_13 : decode cX10_between 13 = .ok (.ireturn, 1) := by decide +kernel
theorem dX10_between_14 : decode cX10_between 14 = .ok (.aload_n 0, 1) := by decide +kernel
theorem dX10_between_15 : decode cX10_between 15 = .ok (.aload_n 0, 1) := by decide +kernel
theorem dX10_between_16 : decode cX10_between 16 = .ok (.getfield 7, 3) := by decide +kernel
theorem dX10_between_19 : decode cX10_between 19 = .ok (.iconst 0, 1) := by decide +kernel
theorem dX10_between_20 : decode cX10_between 20 = .ok (.iaload, 1) := by decide +kernel
theorem dX10_between_21 : decode cX10_between 21 = .ok (.invokevirtual 272, 3) := by decide +kernel
theorem dX10_between_24 : decode cX10_between 24 = .ok (.aload_n 0, 1) := by decide +kernel
theorem dX10_between_25 : decode cX10_between 25 = .ok (.getfield 267, 3) := by decide +kernel
theorem dX10_between_28 : decode cX10_between 28 = .ok (.iload_n 1, 1) := by decide +kernel
theorem dX10_between_29 : decode cX10_between 29 = .ok (.if_icmp .ge 6, 3) := by decide +kernel
theorem dX10_between_32 : decode cX10_between 32 = .ok (.bipush (-4), 2) := by decide +kernel
theorem dX10_between_34 : decode cX10_between 34 = .ok (.ireturn, 1) := by decide +kernel
theorem dX10_between_35 : decode cX10_between 35 = .ok (.iconst 0, 1) := by decide +kernel
theorem dX10_between_36 : decode cX10_between 36 = .ok (.istore_n 2, 1) := by decide +kernel
theorem dX10_between_37 : decode cX10_between 37 = .ok (.aload_n 0, 1) := by decide +kernel
theorem dX10_between_38 : decode cX10_between 38 = .ok (.iload_n 1, 1) := by decide +kernel
theorem dX10_between_39 : decode cX10_between 39 = .ok (.invokevirtual 275, 3) := by decide +kernel
theorem dX10_between_42 : decode cX10_between 42 = .ok (.iconst 1, 1) := by decide +kernel
theorem dX10_between_43 : decode cX10_between 43 = .ok (.istore_n 3, 1) := by decide +kernel
theorem dX10_between_44 : decode cX10_between 44 = .ok (.iload_n 3, 1) := by decide +kernel
theorem dX10_between_45 : decode cX10_between 45 = .ok (.ifCond .eq 35, 3) := by decide +kernel
theorem dX10_between_48 : decode cX10_between 48 = .ok (.iload_n 2, 1) := by decide +kernel
theorem dX10_between_49 : decode cX10_between 49 = .ok (.iconst 1, 1) := by decide +kernel
theorem dX10_between_50 : decode cX10_between 50 = .ok (.aload_n 0, 1) := by decide +kernel
theorem dX10_between_51 : decode cX10_between 51 = .ok (.aload_n 0, 1) := by decide +kernel
theorem dX10_between_52 : decode cX10_between 52 = .ok (.getfield 7, 3) := by decide +kernel
theorem dX10_between_55 : decode cX10_between 55 = .ok (.iconst 0, 1) := by decide +kernel
theorem dX10_between_56 : decode cX10_between 56 = .ok (.iaload, 1) := by decide +kernel
theorem dX10_between_57 : decode cX10_between 57 = .ok (.aload_n 0, 1) := by decide +kernel
theorem dX10_between_58 : decode cX10_between 58 = .ok (.iload_n 1, 1) := by decide +kernel
theorem dX10_between_59 : decode cX10_between 59 = .ok (.invokevirtual 278, 3) := by decide +kernel
theorem dX10_between_62 : decode cX10_between 62 = .ok (.iconst (-1), 1) := by decide +kernel
theorem dX10_between_63 : decode cX10_between 63 = .ok (.ixor, 1) := by decide +kernel
theorem dX10_between_64 : decode cX10_between 64 = .ok (.iand, 1) := by decide +kernel
theorem dX10_between_65 : decode cX10_between 65 = .ok (.invokevirtual 221, 3) := by decide +kernel
theorem dX10_between_68 : decode cX10_between 68 = .ok (.ishl, 1) := by decide +kernel
theorem dX10_between_69 : decode cX10_between 69 = .ok (.ior, 1) := by decide +kernel
theorem dX10_between_70 : decode cX10_between 70 = .ok (.istore_n 2, 1) := by decide +kernel
theorem dX10_between_71 : decode cX10_between 71 = .ok (.aload_n 0, 1) := by decide +kernel
theorem dX10_between_72 : decode cX10_between 72 = .ok (.iload_n 1, 1) := by decide +kernel
theorem dX10_between_73 : decode cX10_between 73 = .ok (.invokevirtual 281, 3) := by decide +kernel
theorem dX10_between_76 : decode cX10_between 76 = .ok (.istore_n 3, 1) := by decide +kernel
theorem dX10_between_77 : decode cX10_between 77 = .ok (.goto (-33), 3) := by decide +kernel
theorem dX10_between_80 : decode cX10_between 80 = .ok (.iload_n 2, 1) := by decide +kernel
theorem dX10_between_81 : decode cX10_between 81 = .ok (.ireturn, 1) := by decide +kernel
theorem dX10_startsGather_0 : decode cX10_startsGather 0 = .ok (.aload_n 0, 1) := by decide +kernel
theorem dX10_startsGather_1 : decode cX10_startsGather 1 = .ok (.iconst 0, 1) := by decide +kernel
theorem dX10_startsGather_2 : decode cX10_startsGather 2 = .ok (.putfield 284, 3) := by decide +kernel
theorem dX10_startsGather_5 : decode cX10_startsGather 5 = .ok (.aload_n 0, 1) := by decide +kernel
theorem dX10_startsGather_6 : decode cX10_startsGather 6 = .ok (.bipush (-4), 2) := by decide +kernel
theorem dX10_startsGather_8 : decode cX10_startsGather 8 = .ok (.putfield 287, 3) := by decide +kernel
theorem dX10_startsGather_11 : decode cX10_startsGather 11 = .ok (.aload_n 0, 1) := by decide +kernel
theorem dX10_startsGather_12 : decode cX10_startsGather 12 = .ok (.iconst 0, 1) := by decide +kernel
theorem dX10_startsGather_13 : decode cX10_startsGather 13 = .ok (.putfield 290, 3) := by decide +kernel
theorem dX10_startsGather_16 : decode cX10_startsGather 16 = .ok (.return_, 1) := by decide +kernel
theorem dX10_gathers_0 : decode cX10_gathers 0 = .ok (.aload_n 0, 1) := by decide +kernel
theorem dX10_gathers_1 : decode cX10_gathers 1 = .ok (.aload_n 0, 1) := by decide +kernel
theorem dX10_gathers_2 : decode cX10_gathers 2 = .ok (.getfield 284, 3) := by decide +kernel
theorem dX10_gathers_5 : decode cX10_gathers 5 = .ok (.ifCond .eq 11, 3) := by decide +kernel
theorem dX10_gathers_8 : decode cX10_gathers 8 = .ok (.iload_n 1, 1) := by decide +kernel
theorem dX10_gathers_9 : decode cX10_gathers 9 = .ok (.aload_n 0, 1) := by decide +kernel
theorem dX10_gathers_10 : decode cX10_gathers 10 = .ok (.getfield 287, 3) := by decide +kernel
theorem dX10_gathers_13 : decode cX10_gathers 13 = .ok (.if_icmp .ge 7, 3) := by decide +kernel
theorem dX10_gathers_16 : decode cX10_gathers 16 = .ok (.iload_n 1, 1) := by decide +kernel
theorem dX10_gathers_17 : decode cX10_gathers 17 = .ok (.goto 7, 3) := by decide +kernel
theorem dX10_gathers_20 : decode cX10_gathers 20 = .ok (.aload_n 0, 1) := by decide +kernel
theorem dX10_gathers_21 : decode cX10_gathers 21 = .ok (.getfield 287, 3) := by decide +kernel
theorem dX10_gathers_24 : decode cX10_gathers 24 = .ok (.putfield 287, 3) := by decide +kernel
theorem dX10_gathers_27 : decode cX10_gathers 27 = .ok (.aload_n 0, 1) := by decide +kernel
theorem dX10_gathers_28 : decode cX10_gathers 28 = .ok (.aload_n 0, 1) := by decide +kernel
theorem dX10_gathers_29 : decode cX10_gathers 29 = .ok (.getfield 284, 3) := by decide +kernel
theorem dX10_gathers_32 : decode cX10_gathers 32 = .ok (.ifCond .ne 7, 3) := by decide +kernel
theorem dX10_gathers_35 : decode cX10_gathers 35 = .ok (.iload_n 1, 1) := by decide +kernel
theorem dX10_gathers_36 : decode cX10_gathers 36 = .ok (.goto 9, 3) := by decide +kernel
theorem dX10_gathers_39 : decode cX10_gathers 39 = .ok (.aload_n 0, 1) := by decide +kernel
theorem dX10_gathers_40 : decode cX10_gathers 40 = .ok (.getfield 290, 3) := by decide +kernel
theorem dX10_gathers_43 : decode cX10_gathers 43 = .ok (.iload_n 1, 1) := by decide +kernel
theorem dX10_gathers_44 : decode cX10_gathers 44 = .ok (.iand, 1) := by decide +kernel
theorem dX10_gathers_45 : decode cX10_gathers 45 = .ok (.putfield 290, 3) := by decide +kernel
theorem dX10_gathers_48 : decode cX10_gathers 48 = .ok (.aload_n 0, 1) := by decide +kernel
theorem dX10_gathers_49 : decode cX10_gathers 49 = .ok (.dup, 1) := by decide +kernel
theorem dX10_gathers_50 : decode cX10_gathers 50 = .ok (.getfield 284, 3) := by decide +kernel
theorem dX10_gathers_53 : decode cX10_gathers 53 = .ok (.iconst 1, 1) := by decide +kernel
theorem dX10_gathers_54 : decode cX10_gathers 54 = .ok (.iadd, 1) := by decide +kernel
theorem dX10_gathers_55 : decode cX10_gathers 55 = .ok (.putfield 284, 3) := by decide +kernel
theorem dX10_gathers_58 : decode cX10_gathers 58 = .ok (.return_, 1) := by decide +kernel
theorem dX10_just_0 : decode cX10_just 0 = .ok (.iload_n 1, 1) := by decide +kernel
theorem dX10_just_1 : decode cX10_just 1 = .ok (.i2l, 1) := by decide +kernel
theorem dX10_just_2 : decode cX10_just 2 = .ok (.lconst 0, 1) := by decide +kernel
theorem dX10_just_3 : decode cX10_just 3 = .ok (.ldc2_w 270, 3) := by decide +kernel
theorem dX10_just_6 : decode cX10_just 6 = .ok (.invokestatic 134, 3) := by decide +kernel
theorem dX10_just_9 : decode cX10_just 9 = .ok (.ifCond .eq 25, 3) := by decide +kernel
theorem dX10_just_12 : decode cX10_just 12 = .ok (.iload_n 2, 1) := by decide +kernel
theorem dX10_just_13 : decode cX10_just 13 = .ok (.i2l, 1) := by decide +kernel
theorem dX10_just_14 : decode cX10_just 14 = .ok (.lconst 0, 1) := by decide +kernel
theorem dX10_just_15 : decode cX10_just 15 = .ok (.ldc2_w 293, 3) := by decide +kernel
theorem dX10_just_18 : decode cX10_just 18 = .ok (.invokestatic 134, 3) := by decide +kernel
theorem dX10_just_21 : decode cX10_just 21 = .ok (.ifCond .eq 13, 3) := by decide +kernel
theorem dX10_just_24 : decode cX10_just 24 = .ok (.iload_n 3, 1) := by decide +kernel
theorem dX10_just_25 : decode cX10_just 25 = .ok (.i2l, 1) := by decide +kernel
theorem dX10_just_26 : decode cX10_just 26 = .ok (.lconst 0, 1) := by decide +kernel
theorem dX10_just_27 : decode cX10_just 27 = .ok (.lconst 1, 1) := by decide +kernel
theorem dX10_just_28 : decode cX10_just 28 = .ok (.invokestatic 134, 3) := by decide +kernel
theorem dX10_just_31 : decode cX10_just 31 = .ok (.ifCond .ne 5, 3) := by decide +kernel
theorem dX10_just_34 : decode cX10_just 34 = .ok (.iconst (-1), 1) := by decide +kernel
theorem dX10_just_35 : decode cX10_just 35 = .ok (.ireturn, 1) := by decide +kernel
theorem dX10_just_36 : decode cX10_just 36 = .ok (.aload_n 0, 1) := by decide +kernel
theorem dX10_just_37 : decode cX10_just 37 = .ok (.aload_n 0, 1) := by decide +kernel
theorem dX10_just_38 : decode cX10_just 38 = .ok (.getfield 7, 3) := by decide +kernel
theorem dX10_just_41 : decode cX10_just 41 = .ok (.iconst 0, 1) := by decide +kernel
theorem dX10_just_42 : decode cX10_just 42 = .ok (.iaload, 1) := by decide +kernel
theorem dX10_just_43 : decode cX10_just 43 = .ok (.invokevirtual 272, 3) := by decide +kernel
theorem dX10_just_46 : decode cX10_just 46 = .ok (.aload_n 0, 1) := by decide +kernel
theorem dX10_just_47 : decode cX10_just 47 = .ok (.invokevirtual 295, 3) := by decide +kernel
theorem dX10_just_50 : decode cX10_just 50 = .ok (.aload_n 0, 1) := by decide +kernel
theorem dX10_just_51 : decode cX10_just 51 = .ok (.iload_n 1, 1) := by decide +kernel
theorem dX10_just_52 : decode cX10_just 52 = .ok (.invokevirtual 275, 3) := by decide +kernel
theorem dX10_just_55 : decode cX10_just 55 = .ok (.aload_n 0, 1) := by decide +kernel
theorem dX10_just_56 : decode cX10_just 56 = .ok (.getfield 267, 3) := by decide +kernel
theorem dX10_just_59 : decode cX10_just 59 = .ok (.iload_n 1, 1) := by decide +kernel
theorem dX10_just_60 : decode cX10_just 60 = .ok (.if_icmp .lt 7, 3) := by decide +kernel
theorem dX10_just_63 : decode cX10_just 63 = .ok (.iconst 1, 1) := by decide +kernel
theorem dX10_just_64 : decode cX10_just 64 = .ok (.goto 4, 3) := by decide +kernel
theorem dX10_just_67 : decode cX10_just 67 = .ok (.iconst 0, 1) := by decide +kernel
theorem dX10_just_68 : decode cX10_just 68 = .ok (.istore 4, 2) := by decide +kernel
theorem dX10_just_70 : decode cX10_just 70 = .ok (.iload 4, 2) := by decide +kernel
theorem dX10_just_72 : decode cX10_just 72 = .ok (.ifCond .eq 45, 3) := by decide +kernel
theorem dX10_just_75 : decode cX10_just 75 = .ok (.aload_n 0, 1) := by decide +kernel
theorem dX10_just_76 : decode cX10_just 76 = .ok (.iload_n 1, 1) := by decide +kernel
theorem dX10_just_77 : decode cX10_just 77 = .ok (.invokevirtual 278, 3) := by decide +kernel
theorem dX10_just_80 : decode cX10_just 80 = .ok (.istore 5, 2) := by decide +kernel
theorem dX10_just_82 : decode cX10_just 82 = .ok (.aload_n 0, 1) := by decide +kernel
theorem dX10_just_83 : decode cX10_just 83 = .ok (.aload_n 0, 1) := by decide +kernel
theorem dX10_just_84 : decode cX10_just 84 = .ok (.getfield 7, 3) := by decide +kernel
theorem dX10_just_87 : decode cX10_just 87 = .ok (.iconst 0, 1) := by decide +kernel
theorem dX10_just_88 : decode cX10_just 88 = .ok (.iaload, 1) := by decide +kernel
theorem dX10_just_89 : decode cX10_just 89 = .ok (.iload 5, 2) := by decide +kernel
theorem dX10_just_91 : decode cX10_just 91 = .ok (.iconst (-1), 1) := by decide +kernel
theorem dX10_just_92 : decode cX10_just 92 = .ok (.ixor, 1) := by decide +kernel
theorem dX10_just_93 : decode cX10_just 93 = .ok (.iand, 1) := by decide +kernel
theorem dX10_just_94 : decode cX10_just 94 = .ok (.invokevirtual 221, 3) := by decide +kernel
theorem dX10_just_97 : decode cX10_just 97 = .ok (.iload_n 2, 1) := by decide +kernel
theorem dX10_just_98 : decode cX10_just 98 = .ok (.if_icmp .ne 9, 3) := by decide +kernel
theorem dX10_just_101 : decode cX10_just 101 = .ok (.aload_n 0, 1) := by decide +kernel
theorem dX10_just_102 : decode cX10_just 102 = .ok (.iload 5, 2) := by decide +kernel
theorem dX10_just_104 : decode cX10_just 104 = .ok (.invokevirtual 298, 3) := by decide +kernel
theorem dX10_just_107 : decode cX10_just 107 = .ok (.aload_n 0, 1) := by decide +kernel
theorem dX10_just_108 : decode cX10_just 108 = .ok (.iload_n 1, 1) := by decide +kernel
theorem dX10_just_109 : decode cX10_just 109 = .ok (.invokevirtual 281, 3) := by decide +kernel
theorem dX10_just_112 : decode cX10_just 112 = .ok (.istore 4, 2) := by decide +kernel
theorem dX10_just_114 : decode cX10_just 114 = .ok (.goto (-44), 3) := by decide +kernel
theorem dX10_just_117 : decode cX10_just 117 = .ok (.iload_n 3, 1) := by decide +kernel
theorem dX10_just_118 : decode cX10_just 118 = .ok (.ifCond .ne 10, 3) := by decide +kernel
theorem dX10_just_121 : decode cX10_just 121 = .ok (.aload_n 0, 1) := by decide +kernel
theorem dX10_just_122 : decode cX10_just 122 = .ok (.getfield 284, 3) := by decide +kernel
theorem dX10_just_125 : decode cX10_just 125 = .ok (.goto 7, 3) := by decide +kernel
theorem dX10_just_128 : decode cX10_just 128 = .ok (.aload_n 0, 1) := by decide +kernel
theorem dX10_just_129 : decode cX10_just 129 = .ok (.getfield 287, 3) := by decide +kernel
theorem dX10_just_132 : decode cX10_just 132 = .ok (.ireturn, 1) := by decide +kernel
theorem dX10_riddle_0 : decode cX10_riddle 0 = .ok (.iload_n 1, 1) := by decide +kernel
theorem dX10_riddle_1 : decode cX10_riddle 1 = .ok (.i2l, 1) := by decide +kernel
theorem dX10_riddle_2 : decode cX10_riddle 2 = .ok (.lconst 1, 1) := by decide +kernel
theorem dX10_riddle_3 : decode cX10_riddle 3 = .ok (.ldc2_w 249, 3) := by decide +kernel
theorem dX10_riddle_6 : decode cX10_riddle 6 = .ok (.invokestatic 134, 3) := by decide +kernel
theorem dX10_riddle_9 : decode cX10_riddle 9 = .ok (.ifCond .eq 27, 3) := by decide +kernel
theorem dX10_riddle_12 : decode cX10_riddle 12 = .ok (.iload_n 2, 1) := by decide +kernel
theorem dX10_riddle_13 : decode cX10_riddle 13 = .ok (.i2l, 1) := by decide +kernel
theorem dX10_riddle_14 : decode cX10_riddle 14 = .ok (.lconst 0, 1) := by decide +kernel
theorem dX10_riddle_15 : decode cX10_riddle 15 = .ok (.ldc2_w 293, 3) := by decide +kernel
theorem dX10_riddle_18 : decode cX10_riddle 18 = .ok (.invokestatic 134, 3) := by decide +kernel
theorem dX10_riddle_21 : decode cX10_riddle 21 = .ok (.ifCond .eq 15, 3) := by decide +kernel
theorem dX10_riddle_24 : decode cX10_riddle 24 = .ok (.iload_n 3, 1) := by decide +kernel
theorem dX10_riddle_25 : decode cX10_riddle 25 = .ok (.i2l, 1) := by decide +kernel
theorem dX10_riddle_26 : decode cX10_riddle 26 = .ok (.lconst 0, 1) := by decide +kernel
theorem dX10_riddle_27 : decode cX10_riddle 27 = .ok (.ldc2_w 249, 3) := by decide +kernel
theorem dX10_riddle_30 : decode cX10_riddle 30 = .ok (.invokestatic 134, 3) := by decide +kernel
theorem dX10_riddle_33 : decode cX10_riddle 33 = .ok (.ifCond .ne 5, 3) := by decide +kernel
theorem dX10_riddle_36 : decode cX10_riddle 36 = .ok (.iconst (-1), 1) := by decide +kernel
theorem dX10_riddle_37 : decode cX10_riddle 37 = .ok (.ireturn, 1) := by decide +kernel
theorem dX10_riddle_38 : decode cX10_riddle 38 = .ok (.aload_n 0, 1) := by decide +kernel
theorem dX10_riddle_39 : decode cX10_riddle 39 = .ok (.aload_n 0, 1) := by decide +kernel
theorem dX10_riddle_40 : decode cX10_riddle 40 = .ok (.getfield 7, 3) := by decide +kernel
theorem dX10_riddle_43 : decode cX10_riddle 43 = .ok (.iconst 0, 1) := by decide +kernel
theorem dX10_riddle_44 : decode cX10_riddle 44 = .ok (.iaload, 1) := by decide +kernel
theorem dX10_riddle_45 : decode cX10_riddle 45 = .ok (.invokevirtual 272, 3) := by decide +kernel
theorem dX10_riddle_48 : decode cX10_riddle 48 = .ok (.iconst 0, 1) := by decide +kernel
theorem dX10_riddle_49 : decode cX10_riddle 49 = .ok (.istore 4, 2) := by decide +kernel
theorem dX10_riddle_51 : decode cX10_riddle 51 = .ok (.aload_n 0, 1) := by decide +kernel
theorem dX10_riddle_52 : decode cX10_riddle 52 = .ok (.iload_n 1, 1) := by decide +kernel
theorem dX10_riddle_53 : decode cX10_riddle 53 = .ok (.invokevirtual 275, 3) := by decide +kernel
theorem dX10_riddle_56 : decode cX10_riddle 56 = .ok (.aload_n 0, 1) := by decide +kernel
theorem dX10_riddle_57 : decode cX10_riddle 57 = .ok (.getfield 267, 3) := by decide +kernel
theorem dX10_riddle_60 : decode cX10_riddle 60 = .ok (.iload_n 1, 1) := by decide +kernel
theorem dX10_riddle_61 : decode cX10_riddle 61 = .ok (.if_icmp .lt 7, 3) := by decide +kernel
theorem dX10_riddle_64 : decode cX10_riddle 64 = .ok (.iconst 1, 1) := by decide +kernel
theorem dX10_riddle_65 : decode cX10_riddle 65 = .ok (.goto 4, 3) := by decide +kernel
theorem dX10_riddle_68 : decode cX10_riddle 68 = .ok (.iconst 0, 1) := by decide +kernel
theorem dX10_riddle_69 : decode cX10_riddle 69 = .ok (.istore 5, 2) := by decide +kernel
theorem dX10_riddle_71 : decode cX10_riddle 71 = .ok (.iload 5, 2) := by decide +kernel
theorem dX10_riddle_73 : decode cX10_riddle 73 = .ok (.ifCond .eq 28, 3) := by decide +kernel
theorem dX10_riddle_76 : decode cX10_riddle 76 = .ok (.aload_n 0, 1) := by decide +kernel
theorem dX10_riddle_77 : decode cX10_riddle 77 = .ok (.getfield 59, 3) := by decide +kernel
theorem dX10_riddle_80 : decode cX10_riddle 80 = .ok (.iload 4, 2) := by decide +kernel
theorem dX10_riddle_82 : decode cX10_riddle 82 = .ok (.aload_n 0, 1) := by decide +kernel
theorem dX10_riddle_83 : decode cX10_riddle 83 = .ok (.iload_n 1, 1) := by decide +kernel
theorem dX10_riddle_84 : decode cX10_riddle 84 = .ok (.invokevirtual 278, 3) := by decide +kernel
theorem dX10_riddle_87 : decode cX10_riddle 87 = .ok (.iastore, 1) := by decide +kernel
theorem dX10_riddle_88 : decode cX10_riddle 88 = .ok (.iinc 4 1, 3) := by decide +kernel
theorem dX10_riddle_91 : decode cX10_riddle 91 = .ok (.aload_n 0, 1) := by decide +kernel
theorem dX10_riddle_92 : decode cX10_riddle 92 = .ok (.iload_n 1, 1) := by decide +kernel
theorem dX10_riddle_93 : decode cX10_riddle 93 = .ok (.invokevirtual 281, 3) := by decide +kernel
theorem dX10_riddle_96 : decode cX10_riddle 96 = .ok (.istore 5, 2) := by decide +kernel
theorem dX10_riddle_98 : decode cX10_riddle 98 = .ok (.goto (-27), 3) := by decide +kernel
theorem dX10_riddle_101 : decode cX10_riddle 101 = .ok (.aload_n 0, 1) := by decide +kernel
theorem dX10_riddle_102 : decode cX10_riddle 102 = .ok (.aload_n 0, 1) := by decide +kernel
theorem dX10_riddle_103 : decode cX10_riddle 103 = .ok (.invokevirtual 301, 3) := by decide +kernel
theorem dX10_riddle_106 : decode cX10_riddle 106 = .ok (.invokevirtual 272, 3) := by decide +kernel
theorem dX10_riddle_109 : decode cX10_riddle 109 = .ok (.iconst 0, 1) := by decide +kernel
theorem dX10_riddle_110 : decode cX10_riddle 110 = .ok (.istore 6, 2) := by decide +kernel
theorem dX10_riddle_112 : decode cX10_riddle 112 = .ok (.bipush (-4), 2) := by decide +kernel
theorem dX10_riddle_114 : decode cX10_riddle 114 = .ok (.istore 7, 2) := by decide +kernel
theorem dX10_riddle_116 : decode cX10_riddle 116 = .ok (.bipush (-4), 2) := by decide +kernel
theorem dX10_riddle_118 : decode cX10_riddle 118 = .ok (.istore 8, 2) := by decide +kernel
theorem dX10_riddle_120 : decode cX10_riddle 120 = .ok (.iconst 0, 1) := by decide +kernel
theorem dX10_riddle_121 : decode cX10_riddle 121 = .ok (.istore 9, 2) := by decide +kernel
theorem dX10_riddle_123 : decode cX10_riddle 123 = .ok (.iload 9, 2) := by decide +kernel
theorem dX10_riddle_125 : decode cX10_riddle 125 = .ok (.iload 4, 2) := by decide +kernel
theorem dX10_riddle_127 : decode cX10_riddle 127 = .ok (.if_icmp .ge 157, 3) := by decide +kernel
theorem dX10_riddle_130 : decode cX10_riddle 130 = .ok (.aload_n 0, 1) := by decide +kernel
theorem dX10_riddle_131 : decode cX10_riddle 131 = .ok (.iload_n 1, 1) := by decide +kernel
theorem dX10_riddle_132 : decode cX10_riddle 132 = .ok (.invokevirtual 275, 3) := by decide +kernel
theorem dX10_riddle_135 : decode cX10_riddle 135 = .ok (.aload_n 0, 1) := by decide +kernel
theorem dX10_riddle_136 : decode cX10_riddle 136 = .ok (.getfield 267, 3) := by decide +kernel
theorem dX10_riddle_139 : decode cX10_riddle 139 = .ok (.iload_n 1, 1) := by decide +kernel
theorem dX10_riddle_140 : decode cX10_riddle 140 = .ok (.if_icmp .lt 7, 3) := by decide +kernel
theorem dX10_riddle_143 : decode cX10_riddle 143 = .ok (.iconst 1, 1) := by decide +kernel
theorem dX10_riddle_144 : decode cX10_riddle 144 = .ok (.goto 4, 3) := by decide +kernel
theorem dX10_riddle_147 : decode cX10_riddle 147 = .ok (.iconst 0, 1) := by decide +kernel
theorem dX10_riddle_148 : decode cX10_riddle 148 = .ok (.istore 5, 2) := by decide +kernel
theorem dX10_riddle_150 : decode cX10_riddle 150 = .ok (.iload 5, 2) := by decide +kernel
theorem dX10_riddle_152 : decode cX10_riddle 152 = .ok (.ifCond .eq 126, 3) := by decide +kernel
theorem dX10_riddle_155 : decode cX10_riddle 155 = .ok (.aload_n 0, 1) := by decide +kernel
theorem dX10_riddle_156 : decode cX10_riddle 156 = .ok (.iload_n 1, 1) := by decide +kernel
theorem dX10_riddle_157 : decode cX10_riddle 157 = .ok (.invokevirtual 278, 3) := by decide +kernel
theorem dX10_riddle_160 : decode cX10_riddle 160 = .ok (.istore 10, 2) := by decide +kernel
theorem dX10_riddle_162 : decode cX10_riddle 162 = .ok (.aload_n 0, 1) := by decide +kernel
theorem dX10_riddle_163 : decode cX10_riddle 163 = .ok (.aload_n 0, 1) := by decide +kernel
theorem dX10_riddle_164 : decode cX10_riddle 164 = .ok (.getfield 7, 3) := by decide +kernel
theorem dX10_riddle_167 : decode cX10_riddle 167 = .ok (.iconst 0, 1) := by decide +kernel
theorem dX10_riddle_168 : decode cX10_riddle 168 = .ok (.iaload, 1) := by decide +kernel
theorem dX10_riddle_169 : decode cX10_riddle 169 = .ok (.aload_n 0, 1) := by decide +kernel
theorem dX10_riddle_170 : decode cX10_riddle 170 = .ok (.getfield 59, 3) := by decide +kernel
theorem dX10_riddle_173 : decode cX10_riddle 173 = .ok (.iload 9, 2) := by decide +kernel
theorem dX10_riddle_175 : decode cX10_riddle 175 = .ok (.iaload, 1) := by decide +kernel
theorem dX10_riddle_176 : decode cX10_riddle 176 = .ok (.iconst (-1), 1) := by decide +kernel
theorem dX10_riddle_177 : decode cX10_riddle 177 = .ok (.ixor, 1) := by decide +kernel
theorem dX10_riddle_178 : decode cX10_riddle 178 = .ok (.iand, 1) := by decide +kernel
theorem dX10_riddle_179 : decode cX10_riddle 179 = .ok (.iload 10, 2) := by decide +kernel
theorem dX10_riddle_181 : decode cX10_riddle 181 = .ok (.ior, 1) := by decide +kernel
theorem dX10_riddle_182 : decode cX10_riddle 182 = .ok (.invokevirtual 221, 3) := by decide +kernel
theorem dX10_riddle_185 : decode cX10_riddle 185 = .ok (.iload_n 2, 1) := by decide +kernel
theorem dX10_riddle_186 : decode cX10_riddle 186 = .ok (.if_icmp .ne 82, 3) := by decide +kernel
theorem dX10_riddle_189 : decode cX10_riddle 189 = .ok (.iload 6, 2) := by decide +kernel
theorem dX10_riddle_191 : decode cX10_riddle 191 = .ok (.ifCond .eq 34, 3) := by decide +kernel
theorem dX10_riddle_194 : decode cX10_riddle 194 = .ok (.aload_n 0, 1) := by decide +kernel
theorem dX10_riddle_195 : decode cX10_riddle 195 = .ok (.getfield 59, 3) := by decide +kernel
theorem dX10_riddle_198 : decode cX10_riddle 198 = .ok (.iload 9, 2) := by decide +kernel
theorem dX10_riddle_200 : decode cX10_riddle 200 = .ok (.iaload, 1) := by decide +kernel
theorem dX10_riddle_201 : decode cX10_riddle 201 = .ok (.iload 7, 2) := by decide +kernel
theorem dX10_riddle_203 : decode cX10_riddle 203 = .ok (.if_icmp .lt 22, 3) := by decide +kernel
theorem dX10_riddle_206 : decode cX10_riddle 206 = .ok (.aload_n 0, 1) := by decide +kernel
theorem dX10_riddle_207 : decode cX10_riddle 207 = .ok (.getfield 59, 3) := by decide +kernel
theorem dX10_riddle_210 : decode cX10_riddle 210 = .ok (.iload 9, 2) := by decide +kernel
theorem dX10_riddle_212 : decode cX10_riddle 212 = .ok (.iaload, 1) := by decide +kernel
theorem dX10_riddle_213 : decode cX10_riddle 213 = .ok (.iload 7, 2) := by decide +kernel
theorem dX10_riddle_215 : decode cX10_riddle 215 = .ok (.if_icmp .ne 14, 3) := by decide +kernel
theorem dX10_riddle_218 : decode cX10_riddle 218 = .ok (.iload 10, 2) := by decide +kernel
theorem dX10_riddle_220 : decode cX10_riddle 220 = .ok (.iload 8, 2) := by decide +kernel
theorem dX10_riddle_222 : decode cX10_riddle 222 = .ok (.if_icmp .ge 7, 3) := by decide +kernel
theorem dX10_riddle_225 : decode cX10_riddle 225 = .ok (.iconst 1, 1) := by decide +kernel
theorem dX10_riddle_226 : decode cX10_riddle 226 = .ok (.goto 4, 3) := by decide +kernel
theorem dX10_riddle_229 : decode cX10_riddle 229 = .ok (.iconst 0, 1) := by decide +kernel
theorem dX10_riddle_230 : decode cX10_riddle 230 = .ok (.istore 11, 2) := by decide +kernel
theorem dX10_riddle_232 : decode cX10_riddle 232 = .ok (.iload 11, 2) := by decide +kernel
theorem dX10_riddle_234 : decode cX10_riddle 234 = .ok (.ifCond .eq 13, 3) := by decide +kernel
theorem dX10_riddle_237 : decode cX10_riddle 237 = .ok (.aload_n 0, 1) := by decide +kernel
theorem dX10_riddle_238 : decode cX10_riddle 238 = .ok (.getfield 59, 3) := by decide +kernel
theorem dX10_riddle_241 : decode cX10_riddle 241 = .ok (.iload 9, 2) := by decide +kernel
theorem dX10_riddle_243 : decode cX10_riddle 243 = .ok (.iaload, 1) := by decide +kernel
theorem dX10_riddle_244 : decode cX10_riddle 244 = .ok (.goto 5, 3) := by decide +kernel
theorem dX10_riddle_247 : decode cX10_riddle 247 = .ok (.iload 7, 2) := by decide +kernel
theorem dX10_riddle_249 : decode cX10_riddle 249 = .ok (.istore 7, 2) := by decide +kernel
theorem dX10_riddle_251 : decode cX10_riddle 251 = .ok (.iload 11, 2) := by decide +kernel
theorem dX10_riddle_253 : decode cX10_riddle 253 = .ok (.ifCond .eq 8, 3) := by decide +kernel
theorem dX10_riddle_256 : decode cX10_riddle 256 = .ok (.iload 10, 2) := by decide +kernel
theorem dX10_riddle_258 : decode cX10_riddle 258 = .ok (.goto 5, 3) := by decide +kernel
theorem dX10_riddle_261 : decode cX10_riddle 261 = .ok (.iload 8, 2) := by decide +kernel
theorem dX10_riddle_263 : decode cX10_riddle 263 = .ok (.istore 8, 2) := by decide +kernel
theorem dX10_riddle_265 : decode cX10_riddle 265 = .ok (.iinc 6 1, 3) := by decide +kernel
theorem dX10_riddle_268 : decode cX10_riddle 268 = .ok (.aload_n 0, 1) := by decide +kernel
theorem dX10_riddle_269 : decode cX10_riddle 269 = .ok (.iload_n 1, 1) := by decide +kernel
theorem dX10_riddle_270 : decode cX10_riddle 270 = .ok (.invokevirtual 281, 3) := by decide +kernel
theorem dX10_riddle_273 : decode cX10_riddle 273 = .ok (.istore 5, 2) := by decide +kernel
theorem dX10_riddle_275 : decode cX10_riddle 275 = .ok (.goto (-125), 3) := by decide +kernel
theorem dX10_riddle_278 : decode cX10_riddle 278 = .ok (.iinc 9 1, 3) := by decide +kernel
theorem dX10_riddle_281 : decode cX10_riddle 281 = .ok (.goto (-158), 3) := by decide +kernel
theorem dX10_riddle_284 : decode cX10_riddle 284 = .ok (.iload_n 3, 1) := by decide +kernel
theorem dX10_riddle_285 : decode cX10_riddle 285 = .ok (.ifCond .ne 8, 3) := by decide +kernel
theorem dX10_riddle_288 : decode cX10_riddle 288 = .ok (.iload 6, 2) := by decide +kernel
theorem dX10_riddle_290 : decode cX10_riddle 290 = .ok (.goto 15, 3) := by decide +kernel
theorem dX10_riddle_293 : decode cX10_riddle 293 = .ok (.iload_n 3, 1) := by decide +kernel
theorem dX10_riddle_294 : decode cX10_riddle 294 = .ok (.iconst 1, 1) := by decide +kernel
theorem dX10_riddle_295 : decode cX10_riddle 295 = .ok (.if_icmp .ne 8, 3) := by decide +kernel
theorem dX10_riddle_298 : decode cX10_riddle 298 = .ok (.iload 7, 2) := by decide +kernel
theorem dX10_riddle_300 : decode cX10_riddle 300 = .ok (.goto 5, 3) := by decide +kernel
theorem dX10_riddle_303 : decode cX10_riddle 303 = .ok (.iload 8, 2) := by decide +kernel
theorem dX10_riddle_305 : decode cX10_riddle 305 = .ok (.ireturn, 1) := by decide +kernel
theorem dX10_ofRow_0 : decode cX10_ofRow 0 = .ok (.iconst 0, 1) := by decide +kernel
theorem dX10_ofRow_1 : decode cX10_ofRow 1 = .ok (.istore_n 2, 1) := by decide +kernel
theorem dX10_ofRow_2 : decode cX10_ofRow 2 = .ok (.iconst 0, 1) := by decide +kernel
theorem dX10_ofRow_3 : decode cX10_ofRow 3 = .ok (.istore_n 3, 1) := by decide +kernel
theorem dX10_ofRow_4 : decode cX10_ofRow 4 = .ok (.iload_n 3, 1) := by decide +kernel
theorem dX10_ofRow_5 : decode cX10_ofRow 5 = .ok (.aload_n 0, 1) := by decide +kernel
theorem dX10_ofRow_6 : decode cX10_ofRow 6 = .ok (.getfield 267, 3) := by decide +kernel
theorem dX10_ofRow_9 : decode cX10_ofRow 9 = .ok (.if_icmp .ge 24, 3) := by decide +kernel
theorem dX10_ofRow_12 : decode cX10_ofRow 12 = .ok (.iload_n 2, 1) := by decide +kernel
theorem dX10_ofRow_13 : decode cX10_ofRow 13 = .ok (.iload_n 1, 1) := by decide +kernel
theorem dX10_ofRow_14 : decode cX10_ofRow 14 = .ok (.iload_n 3, 1) := by decide +kernel
theorem dX10_ofRow_15 : decode cX10_ofRow 15 = .ok (.ishr, 1) := by decide +kernel
theorem dX10_ofRow_16 : decode cX10_ofRow 16 = .ok (.iconst 1, 1) := by decide +kernel
theorem dX10_ofRow_17 : decode cX10_ofRow 17 = .ok (.iand, 1) := by decide +kernel
theorem dX10_ofRow_18 : decode cX10_ofRow 18 = .ok (.aload_n 0, 1) := by decide +kernel
theorem dX10_ofRow_19 : decode cX10_ofRow 19 = .ok (.getfield 53, 3) := by decide +kernel
theorem dX10_ofRow_22 : decode cX10_ofRow 22 = .ok (.iload_n 3, 1) := by decide +kernel
theorem dX10_ofRow_23 : decode cX10_ofRow 23 = .ok (.iaload, 1) := by decide +kernel
theorem dX10_ofRow_24 : decode cX10_ofRow 24 = .ok (.ishl, 1) := by decide +kernel
theorem dX10_ofRow_25 : decode cX10_ofRow 25 = .ok (.ior, 1) := by decide +kernel
theorem dX10_ofRow_26 : decode cX10_ofRow 26 = .ok (.istore_n 2, 1) := by decide +kernel
theorem dX10_ofRow_27 : decode cX10_ofRow 27 = .ok (.iinc 3 1, 3) := by decide +kernel
theorem dX10_ofRow_30 : decode cX10_ofRow 30 = .ok (.goto (-26), 3) := by decide +kernel
theorem dX10_ofRow_33 : decode cX10_ofRow 33 = .ok (.iload_n 2, 1) := by decide +kernel
theorem dX10_ofRow_34 : decode cX10_ofRow 34 = .ok (.ireturn, 1) := by decide +kernel
theorem dX10_winsBy_0 : decode cX10_winsBy 0 = .ok (.iload_n 1, 1) := by decide +kernel
theorem dX10_winsBy_1 : decode cX10_winsBy 1 = .ok (.iconst 1, 1) := by decide +kernel
theorem dX10_winsBy_2 : decode cX10_winsBy 2 = .ok (.iload_n 2, 1) := by decide +kernel
theorem dX10_winsBy_3 : decode cX10_winsBy 3 = .ok (.ishl, 1) := by decide +kernel
theorem dX10_winsBy_4 : decode cX10_winsBy 4 = .ok (.ior, 1) := by decide +kernel
theorem dX10_winsBy_5 : decode cX10_winsBy 5 = .ok (.istore_n 3, 1) := by decide +kernel
theorem dX10_winsBy_6 : decode cX10_winsBy 6 = .ok (.aload_n 0, 1) := by decide +kernel
theorem dX10_winsBy_7 : decode cX10_winsBy 7 = .ok (.getfield 65, 3) := by decide +kernel
theorem dX10_winsBy_10 : decode cX10_winsBy 10 = .ok (.iload_n 3, 1) := by decide +kernel
theorem dX10_winsBy_11 : decode cX10_winsBy 11 = .ok (.iaload, 1) := by decide +kernel
theorem dX10_winsBy_12 : decode cX10_winsBy 12 = .ok (.ifCond .eq 12, 3) := by decide +kernel
theorem dX10_winsBy_15 : decode cX10_winsBy 15 = .ok (.aload_n 0, 1) := by decide +kernel
theorem dX10_winsBy_16 : decode cX10_winsBy 16 = .ok (.getfield 62, 3) := by decide +kernel
theorem dX10_winsBy_19 : decode cX10_winsBy 19 = .ok (.iload_n 3, 1) := by decide +kernel
theorem dX10_winsBy_20 : decode cX10_winsBy 20 = .ok (.iaload, 1) := by decide +kernel
theorem dX10_winsBy_21 : decode cX10_winsBy 21 = .ok (.ifCond .ne 7, 3) := by decide +kernel
theorem dX10_winsBy_24 : decode cX10_winsBy 24 = .ok (.iconst 1, 1) := by decide +kernel
theorem dX10_winsBy_25 : decode cX10_winsBy 25 = .ok (.goto 4, 3) := by decide +kernel
theorem dX10_winsBy_28 : decode cX10_winsBy 28 = .ok (.iconst 0, 1) := by decide +kernel
theorem dX10_winsBy_29 : decode cX10_winsBy 29 = .ok (.ireturn, 1) := by decide +kernel
theorem dX10_taking_0 : decode cX10_taking 0 = .ok (.iload_n 1, 1) := by decide +kernel
theorem dX10_taking_1 : decode cX10_taking 1 = .ok (.i2l, 1) := by decide +kernel
theorem dX10_taking_2 : decode cX10_taking 2 = .ok (.lconst 0, 1) := by decide +kernel
theorem dX10_taking_3 : decode cX10_taking 3 = .ok (.lconst 1, 1) := by decide +kernel
theorem dX10_taking_4 : decode cX10_taking 4 = .ok (.invokestatic 134, 3) := by decide +kernel
theorem dX10_taking_7 : decode cX10_taking 7 = .ok (.ifCond .ne 5, 3) := by decide +kernel
theorem dX10_taking_10 : decode cX10_taking 10 = .ok (.iconst (-1), 1) := by decide +kernel
theorem dX10_taking_11 : decode cX10_taking 11 = .ok (.ireturn, 1) := by decide +kernel
theorem dX10_taking_12 : decode cX10_taking 12 = .ok (.aload_n 0, 1) := by decide +kernel
theorem dX10_taking_13 : decode cX10_taking 13 = .ok (.aload_n 0, 1) := by decide +kernel
theorem dX10_taking_14 : decode cX10_taking 14 = .ok (.getfield 7, 3) := by decide +kernel
theorem dX10_taking_17 : decode cX10_taking 17 = .ok (.iconst 0, 1) := by decide +kernel
theorem dX10_taking_18 : decode cX10_taking 18 = .ok (.iaload, 1) := by decide +kernel
theorem dX10_taking_19 : decode cX10_taking 19 = .ok (.invokevirtual 272, 3) := by decide +kernel
theorem dX10_taking_22 : decode cX10_taking 22 = .ok (.aload_n 0, 1) := by decide +kernel
theorem dX10_taking_23 : decode cX10_taking 23 = .ok (.aload_n 0, 1) := by decide +kernel
theorem dX10_taking_24 : decode cX10_taking 24 = .ok (.getfield 7, 3) := by decide +kernel
theorem dX10_taking_27 : decode cX10_taking 27 = .ok (.iconst 0, 1) := by decide +kernel
theorem dX10_taking_28 : decode cX10_taking 28 = .ok (.iaload, 1) := by decide +kernel
theorem dX10_taking_29 : decode cX10_taking 29 = .ok (.invokevirtual 221, 3) := by decide +kernel
theorem dX10_taking_32 : decode cX10_taking 32 = .ok (.ifCond .eq 12, 3) := by decide +kernel
theorem dX10_taking_35 : decode cX10_taking 35 = .ok (.aload_n 0, 1) := by decide +kernel
theorem dX10_taking_36 : decode cX10_taking 36 = .ok (.getfield 267, 3) := by decide +kernel
theorem dX10_taking_39 : decode cX10_taking 39 = .ok (.bipush 12, 2) := by decide +kernel
theorem dX10_taking_41 : decode cX10_taking 41 = .ok (.if_icmp .le 6, 3) := by decide +kernel
theorem dX10_taking_44 : decode cX10_taking 44 = .ok (.bipush (-2), 2) := by decide +kernel
theorem dX10_taking_46 : decode cX10_taking 46 = .ok (.ireturn, 1) := by decide +kernel
theorem dX10_taking_47 : decode cX10_taking 47 = .ok (.iconst 1, 1) := by decide +kernel
theorem dX10_taking_48 : decode cX10_taking 48 = .ok (.aload_n 0, 1) := by decide +kernel
theorem dX10_taking_49 : decode cX10_taking 49 = .ok (.getfield 267, 3) := by decide +kernel
theorem dX10_taking_52 : decode cX10_taking 52 = .ok (.ishl, 1) := by decide +kernel
theorem dX10_taking_53 : decode cX10_taking 53 = .ok (.iconst 1, 1) := by decide +kernel
theorem dX10_taking_54 : decode cX10_taking 54 = .ok (.isub, 1) := by decide +kernel
theorem dX10_taking_55 : decode cX10_taking 55 = .ok (.istore_n 2, 1) := by decide +kernel
theorem dX10_taking_56 : decode cX10_taking 56 = .ok (.iload_n 2, 1) := by decide +kernel
theorem dX10_taking_57 : decode cX10_taking 57 = .ok (.istore_n 3, 1) := by decide +kernel
theorem dX10_taking_58 : decode cX10_taking 58 = .ok (.iload_n 3, 1) := by decide +kernel
theorem dX10_taking_59 : decode cX10_taking 59 = .ok (.ifCond .lt 103, 3) := by decide +kernel
theorem dX10_taking_62 : decode cX10_taking 62 = .ok (.aload_n 0, 1) := by decide +kernel
theorem dX10_taking_63 : decode cX10_taking 63 = .ok (.getfield 65, 3) := by decide +kernel
theorem dX10_taking_66 : decode cX10_taking 66 = .ok (.iload_n 3, 1) := by decide +kernel
theorem dX10_taking_67 : decode cX10_taking 67 = .ok (.aload_n 0, 1) := by decide +kernel
theorem dX10_taking_68 : decode cX10_taking 68 = .ok (.aload_n 0, 1) := by decide +kernel
theorem dX10_taking_69 : decode cX10_taking 69 = .ok (.getfield 7, 3) := by decide +kernel
theorem dX10_taking_72 : decode cX10_taking 72 = .ok (.iconst 0, 1) := by decide +kernel
theorem dX10_taking_73 : decode cX10_taking 73 = .ok (.iaload, 1) := by decide +kernel
theorem dX10_taking_74 : decode cX10_taking 74 = .ok (.aload_n 0, 1) := by decide +kernel
theorem dX10_taking_75 : decode cX10_taking 75 = .ok (.iload_n 3, 1) := by decide +kernel
theorem dX10_taking_76 : decode cX10_taking 76 = .ok (.invokevirtual 304, 3) := by decide +kernel
theorem dX10_taking_79 : decode cX10_taking 79 = .ok (.iconst (-1), 1) := by decide +kernel
theorem dX10_taking_80 : decode cX10_taking 80 = .ok (.ixor, 1) := by decide +kernel
theorem dX10_taking_81 : decode cX10_taking 81 = .ok (.iand, 1) := by decide +kernel
theorem dX10_taking_82 : decode cX10_taking 82 = .ok (.invokevirtual 221, 3) := by decide +kernel
theorem dX10_taking_85 : decode cX10_taking 85 = .ok (.iastore, 1) := by decide +kernel
theorem dX10_taking_86 : decode cX10_taking 86 = .ok (.aload_n 0, 1) := by decide +kernel
theorem dX10_taking_87 : decode cX10_taking 87 = .ok (.getfield 62, 3) := by decide +kernel
theorem dX10_taking_90 : decode cX10_taking 90 = .ok (.iload_n 3, 1) := by decide +kernel
theorem dX10_taking_91 : decode cX10_taking 91 = .ok (.iconst 0, 1) := by decide +kernel
theorem dX10_taking_92 : decode cX10_taking 92 = .ok (.iastore, 1) := by decide +kernel
theorem dX10_taking_93 : decode cX10_taking 93 = .ok (.iconst 0, 1) := by decide +kernel
theorem dX10_taking_94 : decode cX10_taking 94 = .ok (.istore 4, 2) := by decide +kernel
theorem dX10_taking_96 : decode cX10_taking 96 = .ok (.iload 4, 2) := by decide +kernel
theorem dX10_taking_98 : decode cX10_taking 98 = .ok (.aload_n 0, 1) := by decide +kernel
theorem dX10_taking_99 : decode cX10_taking 99 = .ok (.getfield 267, 3) := by decide +kernel
theorem dX10_taking_102 : decode cX10_taking 102 = .ok (.if_icmp .ge 54, 3) := by decide +kernel
theorem dX10_taking_105 : decode cX10_taking 105 = .ok (.aload_n 0, 1) := by decide +kernel
theorem dX10_taking_106 : decode cX10_taking 106 = .ok (.getfield 65, 3) := by decide +kernel
theorem dX10_taking_109 : decode cX10_taking 109 = .ok (.iload_n 3, 1) := by decide +kernel
theorem dX10_taking_110 : decode cX10_taking 110 = .ok (.iaload, 1) := by decide +kernel
theorem dX10_taking_111 : decode cX10_taking 111 = .ok (.ifCond .le 45, 3) := by decide +kernel
theorem dX10_taking_114 : decode cX10_taking 114 = .ok (.aload_n 0, 1) := by decide +kernel
theorem dX10_taking_115 : decode cX10_taking 115 = .ok (.getfield 62, 3) := by decide +kernel
theorem dX10_taking_118 : decode cX10_taking 118 = .ok (.iload_n 3, 1) := by decide +kernel
theorem dX10_taking_119 : decode cX10_taking 119 = .ok (.dup2, 1) := by decide +kernel
theorem dX10_taking_120 : decode cX10_taking 120 = .ok (.iaload, 1) := by decide +kernel
theorem dX10_taking_121 : decode cX10_taking 121 = .ok (.iload_n 3, 1) := by decide +kernel
theorem dX10_taking_122 : decode cX10_taking 122 = .ok (.iload 4, 2) := by decide +kernel
theorem dX10_taking_124 : decode cX10_taking 124 = .ok (.ishr, 1) := by decide +kernel
theorem dX10_taking_125 : decode cX10_taking 125 = .ok (.iconst 1, 1) := by decide +kernel
theorem dX10_taking_126 : decode cX10_taking 126 = .ok (.iand, 1) := by decide +kernel
theorem dX10_taking_127 : decode cX10_taking 127 = .ok (.ifCond .ne 17, 3) := by decide +kernel
theorem dX10_taking_130 : decode cX10_taking 130 = .ok (.aload_n 0, 1) := by decide +kernel
theorem dX10_taking_131 : decode cX10_taking 131 = .ok (.iload_n 3, 1) := by decide +kernel
theorem dX10_taking_132 : decode cX10_taking 132 = .ok (.iload 4, 2) := by decide +kernel
theorem dX10_taking_134 : decode cX10_taking 134 = .ok (.invokevirtual 307, 3) := by decide +kernel
theorem dX10_taking_137 : decode cX10_taking 137 = .ok (.ifCond .eq 7, 3) := by decide +kernel
theorem dX10_taking_140 : decode cX10_taking 140 = .ok (.iconst 1, 1) := by decide +kernel
theorem dX10_taking_141 : decode cX10_taking 141 = .ok (.goto 4, 3) := by decide +kernel
theorem dX10_taking_144 : decode cX10_taking 144 = .ok (.iconst 0, 1) := by decide +kernel
theorem dX10_taking_145 : decode cX10_taking 145 = .ok (.invokestatic 209, 3) := by decide +kernel
theorem dX10_taking_148 : decode cX10_taking 148 = .ok (.ior, 1) := by decide +kernel
theorem dX10_taking_149 : decode cX10_taking 149 = .ok (.iastore, 1) := by decide +kernel
theorem dX10_taking_150 : decode cX10_taking 150 = .ok (.iinc 4 1, 3) := by decide +kernel
theorem dX10_taking_153 : decode cX10_taking 153 = .ok (.goto (-57), 3) := by decide +kernel
theorem dX10_taking_156 : decode cX10_taking 156 = .ok (.iinc 3 (-1), 3) := by decide +kernel
theorem dX10_taking_159 : decode cX10_taking 159 = .ok (.goto (-101), 3) := by decide +kernel
theorem dX10_taking_162 : decode cX10_taking 162 = .ok (.iload_n 1, 1) := by decide +kernel
theorem dX10_taking_163 : decode cX10_taking 163 = .ok (.ifCond .eq 12, 3) := by decide +kernel
theorem dX10_taking_166 : decode cX10_taking 166 = .ok (.aload_n 0, 1) := by decide +kernel
theorem dX10_taking_167 : decode cX10_taking 167 = .ok (.getfield 62, 3) := by decide +kernel
theorem dX10_taking_170 : decode cX10_taking 170 = .ok (.iconst 0, 1) := by decide +kernel
theorem dX10_taking_171 : decode cX10_taking 171 = .ok (.iaload, 1) := by decide +kernel
theorem dX10_taking_172 : decode cX10_taking 172 = .ok (.ifCond .ne 21, 3) := by decide +kernel
theorem dX10_taking_175 : decode cX10_taking 175 = .ok (.iload_n 1, 1) := by decide +kernel
theorem dX10_taking_176 : decode cX10_taking 176 = .ok (.ifCond .ne 14, 3) := by decide +kernel
theorem dX10_taking_179 : decode cX10_taking 179 = .ok (.iconst 2, 1) := by decide +kernel
theorem dX10_taking_180 : decode cX10_taking 180 = .ok (.aload_n 0, 1) := by decide +kernel
theorem dX10_taking_181 : decode cX10_taking 181 = .ok (.getfield 62, 3) := by decide +kernel
theorem dX10_taking_184 : decode cX10_taking 184 = .ok (.iconst 0, 1) := by decide +kernel
theorem dX10_taking_185 : decode cX10_taking 185 = .ok (.iaload, 1) := by decide +kernel
theorem dX10_taking_186 : decode cX10_taking 186 = .ok (.isub, 1) := by decide +kernel
theorem dX10_taking_187 : decode cX10_taking 187 = .ok (.goto 5, 3) := by decide +kernel
theorem dX10_taking_190 : decode cX10_taking 190 = .ok (.bipush (-4), 2) := by decide +kernel
theorem dX10_taking_192 : decode cX10_taking 192 = .ok (.ireturn, 1) := by decide +kernel
theorem dX10_taking_193 : decode cX10_taking 193 = .ok (.iconst 0, 1) := by decide +kernel
theorem dX10_taking_194 : decode cX10_taking 194 = .ok (.istore_n 3, 1) := by decide +kernel
theorem dX10_taking_195 : decode cX10_taking 195 = .ok (.aload_n 0, 1) := by decide +kernel
theorem dX10_taking_196 : decode cX10_taking 196 = .ok (.iconst 0, 1) := by decide +kernel
theorem dX10_taking_197 : decode cX10_taking 197 = .ok (.iload_n 3, 1) := by decide +kernel
theorem dX10_taking_198 : decode cX10_taking 198 = .ok (.invokevirtual 307, 3) := by decide +kernel
theorem dX10_taking_201 : decode cX10_taking 201 = .ok (.ifCond .ne 9, 3) := by decide +kernel
theorem dX10_taking_204 : decode cX10_taking 204 = .ok (.iinc 3 1, 3) := by decide +kernel
theorem dX10_taking_207 : decode cX10_taking 207 = .ok (.goto (-12), 3) := by decide +kernel
theorem dX10_taking_210 : decode cX10_taking 210 = .ok (.aload_n 0, 1) := by decide +kernel
theorem dX10_taking_211 : decode cX10_taking 211 = .ok (.getfield 53, 3) := by decide +kernel
theorem dX10_taking_214 : decode cX10_taking 214 = .ok (.iload_n 3, 1) := by decide +kernel
theorem dX10_taking_215 : decode cX10_taking 215 = .ok (.iaload, 1) := by decide +kernel
theorem dX10_taking_216 : decode cX10_taking 216 = .ok (.ireturn, 1) := by decide +kernel
theorem dX10_startsLaying_0 : decode cX10_startsLaying 0 = .ok (.aload_n 0, 1) := by decide +kernel
theorem dX10_startsLaying_1 : decode cX10_startsLaying 1 = .ok (.aload_n 0, 1) := by decide +kernel
theorem dX10_startsLaying_2 : decode cX10_startsLaying 2 = .ok (.invokevirtual 301, 3) := by decide +kernel
theorem dX10_startsLaying_5 : decode cX10_startsLaying 5 = .ok (.invokevirtual 272, 3) := by decide +kernel
theorem dX10_startsLaying_8 : decode cX10_startsLaying 8 = .ok (.aload_n 0, 1) := by decide +kernel
theorem dX10_startsLaying_9 : decode cX10_startsLaying 9 = .ok (.getfield 267, 3) := by decide +kernel
theorem dX10_startsLaying_12 : decode cX10_startsLaying 12 = .ok (.ifCond .eq 12, 3) := by decide +kernel
theorem dX10_startsLaying_15 : decode cX10_startsLaying 15 = .ok (.aload_n 0, 1) := by decide +kernel
theorem dX10_startsLaying_16 : decode cX10_startsLaying 16 = .ok (.getfield 267, 3) := by decide +kernel
theorem dX10_startsLaying_19 : decode cX10_startsLaying 19 = .ok (.bipush 12, 2) := by decide +kernel
theorem dX10_startsLaying_21 : decode cX10_startsLaying 21 = .ok (.if_icmp .le 5, 3) := by decide +kernel
theorem dX10_startsLaying_24 : decode cX10_startsLaying 24 = .ok (.iconst 0, 1) := by decide +kernel
theorem dX10_startsLaying_25 : decode cX10_startsLaying 25 = .ok (.ireturn, 1) := by decide +kernel
theorem dX10_startsLaying_26 : decode cX10_startsLaying 26 = .ok (.iconst 0, 1) := by decide +kernel
theorem dX10_startsLaying_27 : decode cX10_startsLaying 27 = .ok (.istore_n 1, 1) := by decide +kernel
theorem dX10_startsLaying_28 : decode cX10_startsLaying 28 = .ok (.iload_n 1, 1) := by decide +kernel
theorem dX10_startsLaying_29 : decode cX10_startsLaying 29 = .ok (.iconst 1, 1) := by decide +kernel
theorem dX10_startsLaying_30 : decode cX10_startsLaying 30 = .ok (.aload_n 0, 1) := by decide +kernel
theorem dX10_startsLaying_31 : decode cX10_startsLaying 31 = .ok (.getfield 267, 3) := by decide +kernel
theorem dX10_startsLaying_34 : decode cX10_startsLaying 34 = .ok (.ishl, 1) := by decide +kernel
theorem dX10_startsLaying_35 : decode cX10_startsLaying 35 = .ok (.if_icmp .ge 31, 3) := by decide +kernel
theorem dX10_startsLaying_38 : decode cX10_startsLaying 38 = .ok (.aload_n 0, 1) := by decide +kernel
theorem dX10_startsLaying_39 : decode cX10_startsLaying 39 = .ok (.getfield 65, 3) := by decide +kernel
theorem dX10_startsLaying_42 : decode cX10_startsLaying 42 = .ok (.iload_n 1, 1) := by decide +kernel
theorem dX10_startsLaying_43 : decode cX10_startsLaying 43 = .ok (.aload_n 0, 1) := by decide +kernel
theorem dX10_startsLaying_44 : decode cX10_startsLaying 44 = .ok (.aload_n 0, 1) := by decide +kernel
theorem dX10_startsLaying_45 : decode cX10_startsLaying 45 = .ok (.getfield 7, 3) := by decide +kernel
theorem dX10_startsLaying_48 : decode cX10_startsLaying 48 = .ok (.iconst 0, 1) := by decide +kernel
theorem dX10_startsLaying_49 : decode cX10_startsLaying 49 = .ok (.iaload, 1) := by decide +kernel
theorem dX10_startsLaying_50 : decode cX10_startsLaying 50 = .ok (.aload_n 0, 1) := by decide +kernel
theorem dX10_startsLaying_51 : decode cX10_startsLaying 51 = .ok (.iload_n 1, 1) := by decide +kernel
theorem dX10_startsLaying_52 : decode cX10_startsLaying 52 = .ok (.invokevirtual 304, 3) := by decide +kernel
theorem dX10_startsLaying_55 : decode cX10_startsLaying 55 = .ok (.ior, 1) := by decide +kernel
theorem dX10_startsLaying_56 : decode cX10_startsLaying 56 = .ok (.invokevirtual 221, 3) := by decide +kernel
theorem dX10_startsLaying_59 : decode cX10_startsLaying 59 = .ok (.iastore, 1) := by decide +kernel
theorem dX10_startsLaying_60 : decode cX10_startsLaying 60 = .ok (.iinc 1 1, 3) := by decide +kernel
theorem dX10_startsLaying_63 : decode cX10_startsLaying 63 = .ok (.goto (-35), 3) := by decide +kernel
theorem dX10_startsLaying_66 : decode cX10_startsLaying 66 = .ok (.iconst 1, 1) := by decide +kernel
theorem dX10_startsLaying_67 : decode cX10_startsLaying 67 = .ok (.ireturn, 1) := by decide +kernel
theorem dX10_laidBy_0 : decode cX10_laidBy 0 = .ok (.iload_n 1, 1) := by decide +kernel
theorem dX10_laidBy_1 : decode cX10_laidBy 1 = .ok (.iconst 1, 1) := by decide +kernel
theorem dX10_laidBy_2 : decode cX10_laidBy 2 = .ok (.iload_n 2, 1) := by decide +kernel
theorem dX10_laidBy_3 : decode cX10_laidBy 3 = .ok (.ishl, 1) := by decide +kernel
theorem dX10_laidBy_4 : decode cX10_laidBy 4 = .ok (.ior, 1) := by decide +kernel
theorem dX10_laidBy_5 : decode cX10_laidBy 5 = .ok (.istore_n 3, 1) := by decide +kernel
theorem dX10_laidBy_6 : decode cX10_laidBy 6 = .ok (.aload_n 0, 1) := by decide +kernel
theorem dX10_laidBy_7 : decode cX10_laidBy 7 = .ok (.getfield 65, 3) := by decide +kernel
theorem dX10_laidBy_10 : decode cX10_laidBy 10 = .ok (.iload_n 3, 1) := by decide +kernel
theorem dX10_laidBy_11 : decode cX10_laidBy 11 = .ok (.iaload, 1) := by decide +kernel
theorem dX10_laidBy_12 : decode cX10_laidBy 12 = .ok (.aload_n 0, 1) := by decide +kernel
theorem dX10_laidBy_13 : decode cX10_laidBy 13 = .ok (.getfield 65, 3) := by decide +kernel
theorem dX10_laidBy_16 : decode cX10_laidBy 16 = .ok (.iload_n 1, 1) := by decide +kernel
end
section
theorem dX10_laidBy_17 : decode cX10_laidBy 17 = .ok (.iaload, 1) := by decide +kernel
theorem dX10_laidBy_18 : decode cX10_laidBy 18 = .ok (.if_icmp .le 7, 3) := by decide +kernel
theorem dX10_laidBy_21 : decode cX10_laidBy 21 = .ok (.iconst 1, 1) := by decide +kernel
theorem dX10_laidBy_22 : decode cX10_laidBy 22 = .ok (.goto 10, 3) := by decide +kernel
theorem dX10_laidBy_25 : decode cX10_laidBy 25 = .ok (.aload_n 0, 1) := by decide +kernel
theorem dX10_laidBy_26 : decode cX10_laidBy 26 = .ok (.getfield 62, 3) := by decide +kernel
theorem dX10_laidBy_29 : decode cX10_laidBy 29 = .ok (.iload_n 3, 1) := by decide +kernel
theorem dX10_laidBy_30 : decode cX10_laidBy 30 = .ok (.iaload, 1) := by decide +kernel
theorem dX10_laidBy_31 : decode cX10_laidBy 31 = .ok (.ineg, 1) := by decide +kernel
theorem dX10_laidBy_32 : decode cX10_laidBy 32 = .ok (.ireturn, 1) := by decide +kernel
theorem dX10_boxedBy_0 : decode cX10_boxedBy 0 = .ok (.iload_n 1, 1) := by decide +kernel
theorem dX10_boxedBy_1 : decode cX10_boxedBy 1 = .ok (.iconst 1, 1) := by decide +kernel
theorem dX10_boxedBy_2 : decode cX10_boxedBy 2 = .ok (.iload_n 2, 1) := by decide +kernel
theorem dX10_boxedBy_3 : decode cX10_boxedBy 3 = .ok (.ishl, 1) := by decide +kernel
theorem dX10_boxedBy_4 : decode cX10_boxedBy 4 = .ok (.ior, 1) := by decide +kernel
theorem dX10_boxedBy_5 : decode cX10_boxedBy 5 = .ok (.istore_n 3, 1) := by decide +kernel
theorem dX10_boxedBy_6 : decode cX10_boxedBy 6 = .ok (.aload_n 0, 1) := by decide +kernel
theorem dX10_boxedBy_7 : decode cX10_boxedBy 7 = .ok (.getfield 65, 3) := by decide +kernel
theorem dX10_boxedBy_10 : decode cX10_boxedBy 10 = .ok (.iload_n 3, 1) := by decide +kernel
theorem dX10_boxedBy_11 : decode cX10_boxedBy 11 = .ok (.iaload, 1) := by decide +kernel
theorem dX10_boxedBy_12 : decode cX10_boxedBy 12 = .ok (.aload_n 0, 1) := by decide +kernel
theorem dX10_boxedBy_13 : decode cX10_boxedBy 13 = .ok (.getfield 65, 3) := by decide +kernel
theorem dX10_boxedBy_16 : decode cX10_boxedBy 16 = .ok (.iload_n 1, 1) := by decide +kernel
theorem dX10_boxedBy_17 : decode cX10_boxedBy 17 = .ok (.iaload, 1) := by decide +kernel
theorem dX10_boxedBy_18 : decode cX10_boxedBy 18 = .ok (.isub, 1) := by decide +kernel
theorem dX10_boxedBy_19 : decode cX10_boxedBy 19 = .ok (.istore 4, 2) := by decide +kernel
theorem dX10_boxedBy_21 : decode cX10_boxedBy 21 = .ok (.iload 4, 2) := by decide +kernel
theorem dX10_boxedBy_23 : decode cX10_boxedBy 23 = .ok (.ifCond .le 15, 3) := by decide +kernel
theorem dX10_boxedBy_26 : decode cX10_boxedBy 26 = .ok (.iload 4, 2) := by decide +kernel
theorem dX10_boxedBy_28 : decode cX10_boxedBy 28 = .ok (.aload_n 0, 1) := by decide +kernel
theorem dX10_boxedBy_29 : decode cX10_boxedBy 29 = .ok (.getfield 62, 3) := by decide +kernel
theorem dX10_boxedBy_32 : decode cX10_boxedBy 32 = .ok (.iload_n 3, 1) := by decide +kernel
theorem dX10_boxedBy_33 : decode cX10_boxedBy 33 = .ok (.iaload, 1) := by decide +kernel
theorem dX10_boxedBy_34 : decode cX10_boxedBy 34 = .ok (.iadd, 1) := by decide +kernel
theorem dX10_boxedBy_35 : decode cX10_boxedBy 35 = .ok (.goto 10, 3) := by decide +kernel
theorem dX10_boxedBy_38 : decode cX10_boxedBy 38 = .ok (.aload_n 0, 1) := by decide +kernel
theorem dX10_boxedBy_39 : decode cX10_boxedBy 39 = .ok (.getfield 62, 3) := by decide +kernel
theorem dX10_boxedBy_42 : decode cX10_boxedBy 42 = .ok (.iload_n 3, 1) := by decide +kernel
theorem dX10_boxedBy_43 : decode cX10_boxedBy 43 = .ok (.iaload, 1) := by decide +kernel
theorem dX10_boxedBy_44 : decode cX10_boxedBy 44 = .ok (.ineg, 1) := by decide +kernel
theorem dX10_boxedBy_45 : decode cX10_boxedBy 45 = .ok (.ireturn, 1) := by decide +kernel
theorem dX10_playedBy_0 : decode cX10_playedBy 0 = .ok (.iload_n 3, 1) := by decide +kernel
theorem dX10_playedBy_1 : decode cX10_playedBy 1 = .ok (.ifCond .eq 12, 3) := by decide +kernel
theorem dX10_playedBy_4 : decode cX10_playedBy 4 = .ok (.aload_n 0, 1) := by decide +kernel
theorem dX10_playedBy_5 : decode cX10_playedBy 5 = .ok (.iload_n 1, 1) := by decide +kernel
theorem dX10_playedBy_6 : decode cX10_playedBy 6 = .ok (.iload_n 2, 1) := by decide +kernel
theorem dX10_playedBy_7 : decode cX10_playedBy 7 = .ok (.invokevirtual 311, 3) := by decide +kernel
theorem dX10_playedBy_10 : decode cX10_playedBy 10 = .ok (.goto 9, 3) := by decide +kernel
theorem dX10_playedBy_13 : decode cX10_playedBy 13 = .ok (.aload_n 0, 1) := by decide +kernel
theorem dX10_playedBy_14 : decode cX10_playedBy 14 = .ok (.iload_n 1, 1) := by decide +kernel
theorem dX10_playedBy_15 : decode cX10_playedBy 15 = .ok (.iload_n 2, 1) := by decide +kernel
theorem dX10_playedBy_16 : decode cX10_playedBy 16 = .ok (.invokevirtual 314, 3) := by decide +kernel
theorem dX10_playedBy_19 : decode cX10_playedBy 19 = .ok (.ireturn, 1) := by decide +kernel
theorem dX10_findGame_0 : decode cX10_findGame 0 = .ok (.iconst 1, 1) := by decide +kernel
theorem dX10_findGame_1 : decode cX10_findGame 1 = .ok (.aload_n 0, 1) := by decide +kernel
theorem dX10_findGame_2 : decode cX10_findGame 2 = .ok (.getfield 267, 3) := by decide +kernel
theorem dX10_findGame_5 : decode cX10_findGame 5 = .ok (.ishl, 1) := by decide +kernel
theorem dX10_findGame_6 : decode cX10_findGame 6 = .ok (.iconst 1, 1) := by decide +kernel
theorem dX10_findGame_7 : decode cX10_findGame 7 = .ok (.isub, 1) := by decide +kernel
theorem dX10_findGame_8 : decode cX10_findGame 8 = .ok (.istore_n 2, 1) := by decide +kernel
theorem dX10_findGame_9 : decode cX10_findGame 9 = .ok (.aload_n 0, 1) := by decide +kernel
theorem dX10_findGame_10 : decode cX10_findGame 10 = .ok (.getfield 62, 3) := by decide +kernel
theorem dX10_findGame_13 : decode cX10_findGame 13 = .ok (.iload_n 2, 1) := by decide +kernel
theorem dX10_findGame_14 : decode cX10_findGame 14 = .ok (.iconst 0, 1) := by decide +kernel
theorem dX10_findGame_15 : decode cX10_findGame 15 = .ok (.iastore, 1) := by decide +kernel
theorem dX10_findGame_16 : decode cX10_findGame 16 = .ok (.iload_n 2, 1) := by decide +kernel
theorem dX10_findGame_17 : decode cX10_findGame 17 = .ok (.iconst 1, 1) := by decide +kernel
theorem dX10_findGame_18 : decode cX10_findGame 18 = .ok (.isub, 1) := by decide +kernel
theorem dX10_findGame_19 : decode cX10_findGame 19 = .ok (.istore_n 3, 1) := by decide +kernel
theorem dX10_findGame_20 : decode cX10_findGame 20 = .ok (.iload_n 3, 1) := by decide +kernel
theorem dX10_findGame_21 : decode cX10_findGame 21 = .ok (.ifCond .lt 75, 3) := by decide +kernel
theorem dX10_findGame_24 : decode cX10_findGame 24 = .ok (.ldc_w 317, 3) := by decide +kernel
theorem dX10_findGame_27 : decode cX10_findGame 27 = .ok (.istore 4, 2) := by decide +kernel
theorem dX10_findGame_29 : decode cX10_findGame 29 = .ok (.iconst 0, 1) := by decide +kernel
theorem dX10_findGame_30 : decode cX10_findGame 30 = .ok (.istore 5, 2) := by decide +kernel
theorem dX10_findGame_32 : decode cX10_findGame 32 = .ok (.iload 5, 2) := by decide +kernel
theorem dX10_findGame_34 : decode cX10_findGame 34 = .ok (.aload_n 0, 1) := by decide +kernel
theorem dX10_findGame_35 : decode cX10_findGame 35 = .ok (.getfield 267, 3) := by decide +kernel
theorem dX10_findGame_38 : decode cX10_findGame 38 = .ok (.if_icmp .ge 44, 3) := by decide +kernel
theorem dX10_findGame_41 : decode cX10_findGame 41 = .ok (.iload_n 3, 1) := by decide +kernel
theorem dX10_findGame_42 : decode cX10_findGame 42 = .ok (.iload 5, 2) := by decide +kernel
theorem dX10_findGame_44 : decode cX10_findGame 44 = .ok (.ishr, 1) := by decide +kernel
theorem dX10_findGame_45 : decode cX10_findGame 45 = .ok (.iconst 1, 1) := by decide +kernel
theorem dX10_findGame_46 : decode cX10_findGame 46 = .ok (.iand, 1) := by decide +kernel
theorem dX10_findGame_47 : decode cX10_findGame 47 = .ok (.ifCond .ne 29, 3) := by decide +kernel
theorem dX10_findGame_50 : decode cX10_findGame 50 = .ok (.aload_n 0, 1) := by decide +kernel
theorem dX10_findGame_51 : decode cX10_findGame 51 = .ok (.iload_n 3, 1) := by decide +kernel
theorem dX10_findGame_52 : decode cX10_findGame 52 = .ok (.iload 5, 2) := by decide +kernel
theorem dX10_findGame_54 : decode cX10_findGame 54 = .ok (.iload_n 1, 1) := by decide +kernel
theorem dX10_findGame_55 : decode cX10_findGame 55 = .ok (.invokevirtual 318, 3) := by decide +kernel
theorem dX10_findGame_58 : decode cX10_findGame 58 = .ok (.istore 6, 2) := by decide +kernel
theorem dX10_findGame_60 : decode cX10_findGame 60 = .ok (.iload 6, 2) := by decide +kernel
theorem dX10_findGame_62 : decode cX10_findGame 62 = .ok (.iload 4, 2) := by decide +kernel
theorem dX10_findGame_64 : decode cX10_findGame 64 = .ok (.if_icmp .le 8, 3) := by decide +kernel
theorem dX10_findGame_67 : decode cX10_findGame 67 = .ok (.iload 6, 2) := by decide +kernel
theorem dX10_findGame_69 : decode cX10_findGame 69 = .ok (.goto 5, 3) := by decide +kernel
theorem dX10_findGame_72 : decode cX10_findGame 72 = .ok (.iload 4, 2) := by decide +kernel
theorem dX10_findGame_74 : decode cX10_findGame 74 = .ok (.istore 4, 2) := by decide +kernel
theorem dX10_findGame_76 : decode cX10_findGame 76 = .ok (.iinc 5 1, 3) := by decide +kernel
theorem dX10_findGame_79 : decode cX10_findGame 79 = .ok (.goto (-47), 3) := by decide +kernel
theorem dX10_findGame_82 : decode cX10_findGame 82 = .ok (.aload_n 0, 1) := by decide +kernel
theorem dX10_findGame_83 : decode cX10_findGame 83 = .ok (.getfield 62, 3) := by decide +kernel
theorem dX10_findGame_86 : decode cX10_findGame 86 = .ok (.iload_n 3, 1) := by decide +kernel
theorem dX10_findGame_87 : decode cX10_findGame 87 = .ok (.iload 4, 2) := by decide +kernel
theorem dX10_findGame_89 : decode cX10_findGame 89 = .ok (.iastore, 1) := by decide +kernel
theorem dX10_findGame_90 : decode cX10_findGame 90 = .ok (.iinc 3 (-1), 3) := by decide +kernel
theorem dX10_findGame_93 : decode cX10_findGame 93 = .ok (.goto (-73), 3) := by decide +kernel
theorem dX10_findGame_96 : decode cX10_findGame 96 = .ok (.return_, 1) := by decide +kernel
theorem dX10_bestPlace_0 : decode cX10_bestPlace 0 = .ok (.iconst 0, 1) := by decide +kernel
theorem dX10_bestPlace_1 : decode cX10_bestPlace 1 = .ok (.istore_n 2, 1) := by decide +kernel
theorem dX10_bestPlace_2 : decode cX10_bestPlace 2 = .ok (.aload_n 0, 1) := by decide +kernel
theorem dX10_bestPlace_3 : decode cX10_bestPlace 3 = .ok (.iconst 0, 1) := by decide +kernel
theorem dX10_bestPlace_4 : decode cX10_bestPlace 4 = .ok (.iload_n 2, 1) := by decide +kernel
theorem dX10_bestPlace_5 : decode cX10_bestPlace 5 = .ok (.iload_n 1, 1) := by decide +kernel
theorem dX10_bestPlace_6 : decode cX10_bestPlace 6 = .ok (.invokevirtual 318, 3) := by decide +kernel
theorem dX10_bestPlace_9 : decode cX10_bestPlace 9 = .ok (.aload_n 0, 1) := by decide +kernel
theorem dX10_bestPlace_10 : decode cX10_bestPlace 10 = .ok (.getfield 62, 3) := by decide +kernel
theorem dX10_bestPlace_13 : decode cX10_bestPlace 13 = .ok (.iconst 0, 1) := by decide +kernel
theorem dX10_bestPlace_14 : decode cX10_bestPlace 14 = .ok (.iaload, 1) := by decide +kernel
theorem dX10_bestPlace_15 : decode cX10_bestPlace 15 = .ok (.if_icmp .eq 9, 3) := by decide +kernel
theorem dX10_bestPlace_18 : decode cX10_bestPlace 18 = .ok (.iinc 2 1, 3) := by decide +kernel
theorem dX10_bestPlace_21 : decode cX10_bestPlace 21 = .ok (.goto (-19), 3) := by decide +kernel
theorem dX10_bestPlace_24 : decode cX10_bestPlace 24 = .ok (.aload_n 0, 1) := by decide +kernel
theorem dX10_bestPlace_25 : decode cX10_bestPlace 25 = .ok (.getfield 53, 3) := by decide +kernel
theorem dX10_bestPlace_28 : decode cX10_bestPlace 28 = .ok (.iload_n 2, 1) := by decide +kernel
theorem dX10_bestPlace_29 : decode cX10_bestPlace 29 = .ok (.iaload, 1) := by decide +kernel
theorem dX10_bestPlace_30 : decode cX10_bestPlace 30 = .ok (.ireturn, 1) := by decide +kernel
theorem dX10_laying_0 : decode cX10_laying 0 = .ok (.iload_n 1, 1) := by decide +kernel
theorem dX10_laying_1 : decode cX10_laying 1 = .ok (.i2l, 1) := by decide +kernel
theorem dX10_laying_2 : decode cX10_laying 2 = .ok (.lconst 0, 1) := by decide +kernel
theorem dX10_laying_3 : decode cX10_laying 3 = .ok (.lconst 1, 1) := by decide +kernel
theorem dX10_laying_4 : decode cX10_laying 4 = .ok (.invokestatic 134, 3) := by decide +kernel
theorem dX10_laying_7 : decode cX10_laying 7 = .ok (.ifCond .ne 5, 3) := by decide +kernel
theorem dX10_laying_10 : decode cX10_laying 10 = .ok (.iconst (-1), 1) := by decide +kernel
theorem dX10_laying_11 : decode cX10_laying 11 = .ok (.ireturn, 1) := by decide +kernel
theorem dX10_laying_12 : decode cX10_laying 12 = .ok (.aload_n 0, 1) := by decide +kernel
theorem dX10_laying_13 : decode cX10_laying 13 = .ok (.invokevirtual 322, 3) := by decide +kernel
theorem dX10_laying_16 : decode cX10_laying 16 = .ok (.ifCond .ne 6, 3) := by decide +kernel
theorem dX10_laying_19 : decode cX10_laying 19 = .ok (.bipush (-2), 2) := by decide +kernel
theorem dX10_laying_21 : decode cX10_laying 21 = .ok (.ireturn, 1) := by decide +kernel
theorem dX10_laying_22 : decode cX10_laying 22 = .ok (.aload_n 0, 1) := by decide +kernel
theorem dX10_laying_23 : decode cX10_laying 23 = .ok (.iconst 0, 1) := by decide +kernel
theorem dX10_laying_24 : decode cX10_laying 24 = .ok (.invokevirtual 326, 3) := by decide +kernel
theorem dX10_laying_27 : decode cX10_laying 27 = .ok (.iload_n 1, 1) := by decide +kernel
theorem dX10_laying_28 : decode cX10_laying 28 = .ok (.iconst 1, 1) := by decide +kernel
theorem dX10_laying_29 : decode cX10_laying 29 = .ok (.if_icmp .ne 11, 3) := by decide +kernel
theorem dX10_laying_32 : decode cX10_laying 32 = .ok (.aload_n 0, 1) := by decide +kernel
theorem dX10_laying_33 : decode cX10_laying 33 = .ok (.iconst 0, 1) := by decide +kernel
theorem dX10_laying_34 : decode cX10_laying 34 = .ok (.invokevirtual 329, 3) := by decide +kernel
theorem dX10_laying_37 : decode cX10_laying 37 = .ok (.goto 30, 3) := by decide +kernel
theorem dX10_laying_40 : decode cX10_laying 40 = .ok (.aload_n 0, 1) := by decide +kernel
theorem dX10_laying_41 : decode cX10_laying 41 = .ok (.getfield 62, 3) := by decide +kernel
theorem dX10_laying_44 : decode cX10_laying 44 = .ok (.iconst 0, 1) := by decide +kernel
theorem dX10_laying_45 : decode cX10_laying 45 = .ok (.iaload, 1) := by decide +kernel
theorem dX10_laying_46 : decode cX10_laying 46 = .ok (.ifCond .le 7, 3) := by decide +kernel
theorem dX10_laying_49 : decode cX10_laying 49 = .ok (.iconst 1, 1) := by decide +kernel
theorem dX10_laying_50 : decode cX10_laying 50 = .ok (.goto 17, 3) := by decide +kernel
theorem dX10_laying_53 : decode cX10_laying 53 = .ok (.aload_n 0, 1) := by decide +kernel
theorem dX10_laying_54 : decode cX10_laying 54 = .ok (.getfield 62, 3) := by decide +kernel
theorem dX10_laying_57 : decode cX10_laying 57 = .ok (.iconst 0, 1) := by decide +kernel
theorem dX10_laying_58 : decode cX10_laying 58 = .ok (.iaload, 1) := by decide +kernel
theorem dX10_laying_59 : decode cX10_laying 59 = .ok (.ifCond .ge 7, 3) := by decide +kernel
theorem dX10_laying_62 : decode cX10_laying 62 = .ok (.iconst 2, 1) := by decide +kernel
theorem dX10_laying_63 : decode cX10_laying 63 = .ok (.goto 4, 3) := by decide +kernel
theorem dX10_laying_66 : decode cX10_laying 66 = .ok (.iconst 0, 1) := by decide +kernel
theorem dX10_laying_67 : decode cX10_laying 67 = .ok (.ireturn, 1) := by decide +kernel
theorem dX10_boxes_0 : decode cX10_boxes 0 = .ok (.iload_n 1, 1) := by decide +kernel
theorem dX10_boxes_1 : decode cX10_boxes 1 = .ok (.i2l, 1) := by decide +kernel
theorem dX10_boxes_2 : decode cX10_boxes 2 = .ok (.lconst 0, 1) := by decide +kernel
theorem dX10_boxes_3 : decode cX10_boxes 3 = .ok (.lconst 1, 1) := by decide +kernel
theorem dX10_boxes_4 : decode cX10_boxes 4 = .ok (.invokestatic 134, 3) := by decide +kernel
theorem dX10_boxes_7 : decode cX10_boxes 7 = .ok (.ifCond .ne 5, 3) := by decide +kernel
theorem dX10_boxes_10 : decode cX10_boxes 10 = .ok (.iconst (-1), 1) := by decide +kernel
theorem dX10_boxes_11 : decode cX10_boxes 11 = .ok (.ireturn, 1) := by decide +kernel
theorem dX10_boxes_12 : decode cX10_boxes 12 = .ok (.aload_n 0, 1) := by decide +kernel
theorem dX10_boxes_13 : decode cX10_boxes 13 = .ok (.invokevirtual 322, 3) := by decide +kernel
theorem dX10_boxes_16 : decode cX10_boxes 16 = .ok (.ifCond .ne 6, 3) := by decide +kernel
theorem dX10_boxes_19 : decode cX10_boxes 19 = .ok (.bipush (-2), 2) := by decide +kernel
theorem dX10_boxes_21 : decode cX10_boxes 21 = .ok (.ireturn, 1) := by decide +kernel
theorem dX10_boxes_22 : decode cX10_boxes 22 = .ok (.aload_n 0, 1) := by decide +kernel
theorem dX10_boxes_23 : decode cX10_boxes 23 = .ok (.iconst 1, 1) := by decide +kernel
theorem dX10_boxes_24 : decode cX10_boxes 24 = .ok (.invokevirtual 326, 3) := by decide +kernel
theorem dX10_boxes_27 : decode cX10_boxes 27 = .ok (.iload_n 1, 1) := by decide +kernel
theorem dX10_boxes_28 : decode cX10_boxes 28 = .ok (.iconst 1, 1) := by decide +kernel
theorem dX10_boxes_29 : decode cX10_boxes 29 = .ok (.if_icmp .ne 11, 3) := by decide +kernel
theorem dX10_boxes_32 : decode cX10_boxes 32 = .ok (.aload_n 0, 1) := by decide +kernel
theorem dX10_boxes_33 : decode cX10_boxes 33 = .ok (.iconst 1, 1) := by decide +kernel
theorem dX10_boxes_34 : decode cX10_boxes 34 = .ok (.invokevirtual 329, 3) := by decide +kernel
theorem dX10_boxes_37 : decode cX10_boxes 37 = .ok (.goto 12, 3) := by decide +kernel
theorem dX10_boxes_40 : decode cX10_boxes 40 = .ok (.aload_n 0, 1) := by decide +kernel
theorem dX10_boxes_41 : decode cX10_boxes 41 = .ok (.getfield 62, 3) := by decide +kernel
theorem dX10_boxes_44 : decode cX10_boxes 44 = .ok (.iconst 0, 1) := by decide +kernel
theorem dX10_boxes_45 : decode cX10_boxes 45 = .ok (.iaload, 1) := by decide +kernel
theorem dX10_boxes_46 : decode cX10_boxes 46 = .ok (.bipush 100, 2) := by decide +kernel
theorem dX10_boxes_48 : decode cX10_boxes 48 = .ok (.iadd, 1) := by decide +kernel
theorem dX10_boxes_49 : decode cX10_boxes 49 = .ok (.ireturn, 1) := by decide +kernel
theorem dX10_common_0 : decode cX10_common 0 = .ok (.lload_n 0, 1) := by decide +kernel
theorem dX10_common_1 : decode cX10_common 1 = .ok (.lstore 4, 2) := by decide +kernel
theorem dX10_common_3 : decode cX10_common 3 = .ok (.lload_n 2, 1) := by decide +kernel
theorem dX10_common_4 : decode cX10_common 4 = .ok (.lstore 6, 2) := by decide +kernel
theorem dX10_common_6 : decode cX10_common 6 = .ok (.lload 6, 2) := by decide +kernel
theorem dX10_common_8 : decode cX10_common 8 = .ok (.lconst 0, 1) := by decide +kernel
theorem dX10_common_9 : decode cX10_common 9 = .ok (.lcmp, 1) := by decide +kernel
theorem dX10_common_10 : decode cX10_common 10 = .ok (.ifCond .eq 21, 3) := by decide +kernel
theorem dX10_common_13 : decode cX10_common 13 = .ok (.lload 4, 2) := by decide +kernel
theorem dX10_common_15 : decode cX10_common 15 = .ok (.lload 6, 2) := by decide +kernel
theorem dX10_common_17 : decode cX10_common 17 = .ok (.lrem, 1) := by decide +kernel
theorem dX10_common_18 : decode cX10_common 18 = .ok (.lstore 8, 2) := by decide +kernel
theorem dX10_common_20 : decode cX10_common 20 = .ok (.lload 6, 2) := by decide +kernel
theorem dX10_common_22 : decode cX10_common 22 = .ok (.lstore 4, 2) := by decide +kernel
theorem dX10_common_24 : decode cX10_common 24 = .ok (.lload 8, 2) := by decide +kernel
theorem dX10_common_26 : decode cX10_common 26 = .ok (.lstore 6, 2) := by decide +kernel
theorem dX10_common_28 : decode cX10_common 28 = .ok (.goto (-22), 3) := by decide +kernel
theorem dX10_common_31 : decode cX10_common 31 = .ok (.lload 4, 2) := by decide +kernel
theorem dX10_common_33 : decode cX10_common 33 = .ok (.lreturn, 1) := by decide +kernel
theorem dX10_lowest_0 : decode cX10_lowest 0 = .ok (.lload_n 2, 1) := by decide +kernel
theorem dX10_lowest_1 : decode cX10_lowest 1 = .ok (.lload_n 0, 1) := by decide +kernel
theorem dX10_lowest_2 : decode cX10_lowest 2 = .ok (.invokestatic 332, 3) := by decide +kernel
theorem dX10_lowest_5 : decode cX10_lowest 5 = .ok (.lstore 5, 2) := by decide +kernel
theorem dX10_lowest_7 : decode cX10_lowest 7 = .ok (.iload 4, 2) := by decide +kernel
theorem dX10_lowest_9 : decode cX10_lowest 9 = .ok (.ifCond .ne 10, 3) := by decide +kernel
theorem dX10_lowest_12 : decode cX10_lowest 12 = .ok (.lload_n 0, 1) := by decide +kernel
theorem dX10_lowest_13 : decode cX10_lowest 13 = .ok (.lload 5, 2) := by decide +kernel
theorem dX10_lowest_15 : decode cX10_lowest 15 = .ok (.ldiv, 1) := by decide +kernel
theorem dX10_lowest_16 : decode cX10_lowest 16 = .ok (.goto 7, 3) := by decide +kernel
theorem dX10_lowest_19 : decode cX10_lowest 19 = .ok (.lload_n 2, 1) := by decide +kernel
theorem dX10_lowest_20 : decode cX10_lowest 20 = .ok (.lload 5, 2) := by decide +kernel
theorem dX10_lowest_22 : decode cX10_lowest 22 = .ok (.ldiv, 1) := by decide +kernel
theorem dX10_lowest_23 : decode cX10_lowest 23 = .ok (.lreturn, 1) := by decide +kernel
theorem dX10_mean_0 : decode cX10_mean 0 = .ok (.iload_n 1, 1) := by decide +kernel
theorem dX10_mean_1 : decode cX10_mean 1 = .ok (.i2l, 1) := by decide +kernel
theorem dX10_mean_2 : decode cX10_mean 2 = .ok (.lconst 0, 1) := by decide +kernel
theorem dX10_mean_3 : decode cX10_mean 3 = .ok (.lconst 1, 1) := by decide +kernel
theorem dX10_mean_4 : decode cX10_mean 4 = .ok (.invokestatic 134, 3) := by decide +kernel
theorem dX10_mean_7 : decode cX10_mean 7 = .ok (.ifCond .ne 7, 3) := by decide +kernel
theorem dX10_mean_10 : decode cX10_mean 10 = .ok (.ldc2_w 336, 3) := by decide +kernel
theorem dX10_mean_13 : decode cX10_mean 13 = .ok (.lreturn, 1) := by decide +kernel
theorem dX10_mean_14 : decode cX10_mean 14 = .ok (.lconst 0, 1) := by decide +kernel
theorem dX10_mean_15 : decode cX10_mean 15 = .ok (.lstore_n 2, 1) := by decide +kernel
theorem dX10_mean_16 : decode cX10_mean 16 = .ok (.iconst 0, 1) := by decide +kernel
theorem dX10_mean_17 : decode cX10_mean 17 = .ok (.istore 4, 2) := by decide +kernel
theorem dX10_mean_19 : decode cX10_mean 19 = .ok (.iload 4, 2) := by decide +kernel
theorem dX10_mean_21 : decode cX10_mean 21 = .ok (.aload_n 0, 1) := by decide +kernel
theorem dX10_mean_22 : decode cX10_mean 22 = .ok (.getfield 116, 3) := by decide +kernel
theorem dX10_mean_25 : decode cX10_mean 25 = .ok (.if_icmp .ge 57, 3) := by decide +kernel
theorem dX10_mean_28 : decode cX10_mean 28 = .ok (.lload_n 2, 1) := by decide +kernel
theorem dX10_mean_29 : decode cX10_mean 29 = .ok (.aload_n 0, 1) := by decide +kernel
theorem dX10_mean_30 : decode cX10_mean 30 = .ok (.iload 4, 2) := by decide +kernel
theorem dX10_mean_32 : decode cX10_mean 32 = .ok (.invokevirtual 205, 3) := by decide +kernel
theorem dX10_mean_35 : decode cX10_mean 35 = .ok (.ifCond .eq 38, 3) := by decide +kernel
theorem dX10_mean_38 : decode cX10_mean 38 = .ok (.aload_n 0, 1) := by decide +kernel
theorem dX10_mean_39 : decode cX10_mean 39 = .ok (.getfield 26, 3) := by decide +kernel
theorem dX10_mean_42 : decode cX10_mean 42 = .ok (.iload 4, 2) := by decide +kernel
theorem dX10_mean_44 : decode cX10_mean 44 = .ok (.iaload, 1) := by decide +kernel
theorem dX10_mean_45 : decode cX10_mean 45 = .ok (.aload_n 0, 1) := by decide +kernel
theorem dX10_mean_46 : decode cX10_mean 46 = .ok (.getfield 7, 3) := by decide +kernel
theorem dX10_mean_49 : decode cX10_mean 49 = .ok (.iconst 0, 1) := by decide +kernel
theorem dX10_mean_50 : decode cX10_mean 50 = .ok (.iaload, 1) := by decide +kernel
theorem dX10_mean_51 : decode cX10_mean 51 = .ok (.iconst (-1), 1) := by decide +kernel
theorem dX10_mean_52 : decode cX10_mean 52 = .ok (.ixor, 1) := by decide +kernel
theorem dX10_mean_53 : decode cX10_mean 53 = .ok (.iand, 1) := by decide +kernel
theorem dX10_mean_54 : decode cX10_mean 54 = .ok (.ifCond .ne 19, 3) := by decide +kernel
theorem dX10_mean_57 : decode cX10_mean 57 = .ok (.ldc2_w 338, 3) := by decide +kernel
theorem dX10_mean_60 : decode cX10_mean 60 = .ok (.iconst 4, 1) := by decide +kernel
theorem dX10_mean_61 : decode cX10_mean 61 = .ok (.aload_n 0, 1) := by decide +kernel
theorem dX10_mean_62 : decode cX10_mean 62 = .ok (.getfield 17, 3) := by decide +kernel
theorem dX10_mean_65 : decode cX10_mean 65 = .ok (.iload 4, 2) := by decide +kernel
theorem dX10_mean_67 : decode cX10_mean 67 = .ok (.iaload, 1) := by decide +kernel
theorem dX10_mean_68 : decode cX10_mean 68 = .ok (.imul, 1) := by decide +kernel
theorem dX10_mean_69 : decode cX10_mean 69 = .ok (.lshr, 1) := by decide +kernel
theorem dX10_mean_70 : decode cX10_mean 70 = .ok (.goto 4, 3) := by decide +kernel
theorem dX10_mean_73 : decode cX10_mean 73 = .ok (.lconst 0, 1) := by decide +kernel
theorem dX10_mean_74 : decode cX10_mean 74 = .ok (.ladd, 1) := by decide +kernel
theorem dX10_mean_75 : decode cX10_mean 75 = .ok (.lstore_n 2, 1) := by decide +kernel
theorem dX10_mean_76 : decode cX10_mean 76 = .ok (.iinc 4 1, 3) := by decide +kernel
theorem dX10_mean_79 : decode cX10_mean 79 = .ok (.goto (-60), 3) := by decide +kernel
theorem dX10_mean_82 : decode cX10_mean 82 = .ok (.lload_n 2, 1) := by decide +kernel
theorem dX10_mean_83 : decode cX10_mean 83 = .ok (.ldc2_w 338, 3) := by decide +kernel
theorem dX10_mean_86 : decode cX10_mean 86 = .ok (.iload_n 1, 1) := by decide +kernel
theorem dX10_mean_87 : decode cX10_mean 87 = .ok (.invokestatic 340, 3) := by decide +kernel
theorem dX10_mean_90 : decode cX10_mean 90 = .ok (.lreturn, 1) := by decide +kernel
theorem dX10_chance_0 : decode cX10_chance 0 = .ok (.iload_n 1, 1) := by decide +kernel
theorem dX10_chance_1 : decode cX10_chance 1 = .ok (.i2l, 1) := by decide +kernel
theorem dX10_chance_2 : decode cX10_chance 2 = .ok (.lconst 0, 1) := by decide +kernel
theorem dX10_chance_3 : decode cX10_chance 3 = .ok (.lconst 1, 1) := by decide +kernel
theorem dX10_chance_4 : decode cX10_chance 4 = .ok (.invokestatic 134, 3) := by decide +kernel
theorem dX10_chance_7 : decode cX10_chance 7 = .ok (.ifCond .ne 7, 3) := by decide +kernel
theorem dX10_chance_10 : decode cX10_chance 10 = .ok (.ldc2_w 336, 3) := by decide +kernel
theorem dX10_chance_13 : decode cX10_chance 13 = .ok (.lreturn, 1) := by decide +kernel
theorem dX10_chance_14 : decode cX10_chance 14 = .ok (.aload_n 0, 1) := by decide +kernel
theorem dX10_chance_15 : decode cX10_chance 15 = .ok (.aload_n 0, 1) := by decide +kernel
theorem dX10_chance_16 : decode cX10_chance 16 = .ok (.getfield 7, 3) := by decide +kernel
theorem dX10_chance_19 : decode cX10_chance 19 = .ok (.iconst 0, 1) := by decide +kernel
theorem dX10_chance_20 : decode cX10_chance 20 = .ok (.iaload, 1) := by decide +kernel
theorem dX10_chance_21 : decode cX10_chance 21 = .ok (.invokevirtual 272, 3) := by decide +kernel
theorem dX10_chance_24 : decode cX10_chance 24 = .ok (.aload_n 0, 1) := by decide +kernel
theorem dX10_chance_25 : decode cX10_chance 25 = .ok (.getfield 267, 3) := by decide +kernel
theorem dX10_chance_28 : decode cX10_chance 28 = .ok (.bipush 16, 2) := by decide +kernel
theorem dX10_chance_30 : decode cX10_chance 30 = .ok (.if_icmp .le 7, 3) := by decide +kernel
theorem dX10_chance_33 : decode cX10_chance 33 = .ok (.ldc2_w 344, 3) := by decide +kernel
theorem dX10_chance_36 : decode cX10_chance 36 = .ok (.lreturn, 1) := by decide +kernel
theorem dX10_chance_37 : decode cX10_chance 37 = .ok (.lconst 0, 1) := by decide +kernel
theorem dX10_chance_38 : decode cX10_chance 38 = .ok (.lstore_n 2, 1) := by decide +kernel
theorem dX10_chance_39 : decode cX10_chance 39 = .ok (.iconst 0, 1) := by decide +kernel
theorem dX10_chance_40 : decode cX10_chance 40 = .ok (.istore 4, 2) := by decide +kernel
theorem dX10_chance_42 : decode cX10_chance 42 = .ok (.iload 4, 2) := by decide +kernel
theorem dX10_chance_44 : decode cX10_chance 44 = .ok (.iconst 1, 1) := by decide +kernel
theorem dX10_chance_45 : decode cX10_chance 45 = .ok (.aload_n 0, 1) := by decide +kernel
theorem dX10_chance_46 : decode cX10_chance 46 = .ok (.getfield 267, 3) := by decide +kernel
theorem dX10_chance_49 : decode cX10_chance 49 = .ok (.ishl, 1) := by decide +kernel
theorem dX10_chance_50 : decode cX10_chance 50 = .ok (.if_icmp .ge 30, 3) := by decide +kernel
theorem dX10_chance_53 : decode cX10_chance 53 = .ok (.lload_n 2, 1) := by decide +kernel
theorem dX10_chance_54 : decode cX10_chance 54 = .ok (.aload_n 0, 1) := by decide +kernel
theorem dX10_chance_55 : decode cX10_chance 55 = .ok (.aload_n 0, 1) := by decide +kernel
theorem dX10_chance_56 : decode cX10_chance 56 = .ok (.iload 4, 2) := by decide +kernel
theorem dX10_chance_58 : decode cX10_chance 58 = .ok (.invokevirtual 304, 3) := by decide +kernel
theorem dX10_chance_61 : decode cX10_chance 61 = .ok (.invokevirtual 221, 3) := by decide +kernel
theorem dX10_chance_64 : decode cX10_chance 64 = .ok (.ifCond .ne 7, 3) := by decide +kernel
theorem dX10_chance_67 : decode cX10_chance 67 = .ok (.lconst 1, 1) := by decide +kernel
theorem dX10_chance_68 : decode cX10_chance 68 = .ok (.goto 4, 3) := by decide +kernel
theorem dX10_chance_71 : decode cX10_chance 71 = .ok (.lconst 0, 1) := by decide +kernel
theorem dX10_chance_72 : decode cX10_chance 72 = .ok (.ladd, 1) := by decide +kernel
theorem dX10_chance_73 : decode cX10_chance 73 = .ok (.lstore_n 2, 1) := by decide +kernel
theorem dX10_chance_74 : decode cX10_chance 74 = .ok (.iinc 4 1, 3) := by decide +kernel
theorem dX10_chance_77 : decode cX10_chance 77 = .ok (.goto (-35), 3) := by decide +kernel
theorem dX10_chance_80 : decode cX10_chance 80 = .ok (.lload_n 2, 1) := by decide +kernel
theorem dX10_chance_81 : decode cX10_chance 81 = .ok (.lconst 1, 1) := by decide +kernel
theorem dX10_chance_82 : decode cX10_chance 82 = .ok (.aload_n 0, 1) := by decide +kernel
theorem dX10_chance_83 : decode cX10_chance 83 = .ok (.getfield 267, 3) := by decide +kernel
theorem dX10_chance_86 : decode cX10_chance 86 = .ok (.lshl, 1) := by decide +kernel
theorem dX10_chance_87 : decode cX10_chance 87 = .ok (.iload_n 1, 1) := by decide +kernel
theorem dX10_chance_88 : decode cX10_chance 88 = .ok (.invokestatic 340, 3) := by decide +kernel
theorem dX10_chance_91 : decode cX10_chance 91 = .ok (.lreturn, 1) := by decide +kernel
theorem dX10_see_0 : decode cX10_see 0 = .ok (.iload_n 1, 1) := by decide +kernel
theorem dX10_see_1 : decode cX10_see 1 = .ok (.i2l, 1) := by decide +kernel
theorem dX10_see_2 : decode cX10_see 2 = .ok (.lconst 1, 1) := by decide +kernel
theorem dX10_see_3 : decode cX10_see 3 = .ok (.ldc2_w 216, 3) := by decide +kernel
theorem dX10_see_6 : decode cX10_see 6 = .ok (.invokestatic 134, 3) := by decide +kernel
theorem dX10_see_9 : decode cX10_see 9 = .ok (.ifCond .eq 21, 3) := by decide +kernel
theorem dX10_see_12 : decode cX10_see 12 = .ok (.iload_n 2, 1) := by decide +kernel
theorem dX10_see_13 : decode cX10_see 13 = .ok (.bipush (-4), 2) := by decide +kernel
theorem dX10_see_15 : decode cX10_see 15 = .ok (.if_icmp .eq 17, 3) := by decide +kernel
theorem dX10_see_18 : decode cX10_see 18 = .ok (.iload_n 2, 1) := by decide +kernel
theorem dX10_see_19 : decode cX10_see 19 = .ok (.i2l, 1) := by decide +kernel
theorem dX10_see_20 : decode cX10_see 20 = .ok (.lconst 0, 1) := by decide +kernel
theorem dX10_see_21 : decode cX10_see 21 = .ok (.ldc2_w 346, 3) := by decide +kernel
theorem dX10_see_24 : decode cX10_see 24 = .ok (.invokestatic 134, 3) := by decide +kernel
theorem dX10_see_27 : decode cX10_see 27 = .ok (.ifCond .ne 5, 3) := by decide +kernel
theorem dX10_see_30 : decode cX10_see 30 = .ok (.iconst (-1), 1) := by decide +kernel
theorem dX10_see_31 : decode cX10_see 31 = .ok (.ireturn, 1) := by decide +kernel
theorem dX10_see_32 : decode cX10_see 32 = .ok (.aload_n 0, 1) := by decide +kernel
theorem dX10_see_33 : decode cX10_see 33 = .ok (.getfield 7, 3) := by decide +kernel
theorem dX10_see_36 : decode cX10_see 36 = .ok (.bipush 32, 2) := by decide +kernel
theorem dX10_see_38 : decode cX10_see 38 = .ok (.iload_n 1, 1) := by decide +kernel
theorem dX10_see_39 : decode cX10_see 39 = .ok (.iadd, 1) := by decide +kernel
theorem dX10_see_40 : decode cX10_see 40 = .ok (.iaload, 1) := by decide +kernel
theorem dX10_see_41 : decode cX10_see 41 = .ok (.istore_n 3, 1) := by decide +kernel
theorem dX10_see_42 : decode cX10_see 42 = .ok (.aload_n 0, 1) := by decide +kernel
theorem dX10_see_43 : decode cX10_see 43 = .ok (.getfield 7, 3) := by decide +kernel
theorem dX10_see_46 : decode cX10_see 46 = .ok (.bipush 32, 2) := by decide +kernel
theorem dX10_see_48 : decode cX10_see 48 = .ok (.iload_n 1, 1) := by decide +kernel
theorem dX10_see_49 : decode cX10_see 49 = .ok (.iadd, 1) := by decide +kernel
theorem dX10_see_50 : decode cX10_see 50 = .ok (.iload_n 2, 1) := by decide +kernel
theorem dX10_see_51 : decode cX10_see 51 = .ok (.iastore, 1) := by decide +kernel
theorem dX10_see_52 : decode cX10_see 52 = .ok (.iload_n 3, 1) := by decide +kernel
theorem dX10_see_53 : decode cX10_see 53 = .ok (.ireturn, 1) := by decide +kernel
theorem dX10_isSo_0 : decode cX10_isSo 0 = .ok (.iconst 1, 1) := by decide +kernel
theorem dX10_isSo_1 : decode cX10_isSo 1 = .ok (.istore_n 2, 1) := by decide +kernel
theorem dX10_isSo_2 : decode cX10_isSo 2 = .ok (.iconst 1, 1) := by decide +kernel
theorem dX10_isSo_3 : decode cX10_isSo 3 = .ok (.istore_n 3, 1) := by decide +kernel
theorem dX10_isSo_4 : decode cX10_isSo 4 = .ok (.iload_n 3, 1) := by decide +kernel
theorem dX10_isSo_5 : decode cX10_isSo 5 = .ok (.iconst 3, 1) := by decide +kernel
theorem dX10_isSo_6 : decode cX10_isSo 6 = .ok (.if_icmp .gt 51, 3) := by decide +kernel
theorem dX10_isSo_9 : decode cX10_isSo 9 = .ok (.iload_n 2, 1) := by decide +kernel
theorem dX10_isSo_10 : decode cX10_isSo 10 = .ok (.ifCond .eq 39, 3) := by decide +kernel
theorem dX10_isSo_13 : decode cX10_isSo 13 = .ok (.aload_n 0, 1) := by decide +kernel
theorem dX10_isSo_14 : decode cX10_isSo 14 = .ok (.getfield 7, 3) := by decide +kernel
theorem dX10_isSo_17 : decode cX10_isSo 17 = .ok (.bipush 32, 2) := by decide +kernel
theorem dX10_isSo_19 : decode cX10_isSo 19 = .ok (.iload_n 3, 1) := by decide +kernel
theorem dX10_isSo_20 : decode cX10_isSo 20 = .ok (.iadd, 1) := by decide +kernel
theorem dX10_isSo_21 : decode cX10_isSo 21 = .ok (.iaload, 1) := by decide +kernel
theorem dX10_isSo_22 : decode cX10_isSo 22 = .ok (.bipush (-4), 2) := by decide +kernel
theorem dX10_isSo_24 : decode cX10_isSo 24 = .ok (.if_icmp .eq 21, 3) := by decide +kernel
theorem dX10_isSo_27 : decode cX10_isSo 27 = .ok (.aload_n 0, 1) := by decide +kernel
theorem dX10_isSo_28 : decode cX10_isSo 28 = .ok (.iload_n 3, 1) := by decide +kernel
theorem dX10_isSo_29 : decode cX10_isSo 29 = .ok (.iload_n 1, 1) := by decide +kernel
theorem dX10_isSo_30 : decode cX10_isSo 30 = .ok (.invokevirtual 218, 3) := by decide +kernel
theorem dX10_isSo_33 : decode cX10_isSo 33 = .ok (.aload_n 0, 1) := by decide +kernel
theorem dX10_isSo_34 : decode cX10_isSo 34 = .ok (.getfield 7, 3) := by decide +kernel
theorem dX10_isSo_37 : decode cX10_isSo 37 = .ok (.bipush 32, 2) := by decide +kernel
theorem dX10_isSo_39 : decode cX10_isSo 39 = .ok (.iload_n 3, 1) := by decide +kernel
theorem dX10_isSo_40 : decode cX10_isSo 40 = .ok (.iadd, 1) := by decide +kernel
theorem dX10_isSo_41 : decode cX10_isSo 41 = .ok (.iaload, 1) := by decide +kernel
theorem dX10_isSo_42 : decode cX10_isSo 42 = .ok (.if_icmp .ne 7, 3) := by decide +kernel
theorem dX10_isSo_45 : decode cX10_isSo 45 = .ok (.iconst 1, 1) := by decide +kernel
theorem dX10_isSo_46 : decode cX10_isSo 46 = .ok (.goto 4, 3) := by decide +kernel
theorem dX10_isSo_49 : decode cX10_isSo 49 = .ok (.iconst 0, 1) := by decide +kernel
theorem dX10_isSo_50 : decode cX10_isSo 50 = .ok (.istore_n 2, 1) := by decide +kernel
theorem dX10_isSo_51 : decode cX10_isSo 51 = .ok (.iinc 3 1, 3) := by decide +kernel
theorem dX10_isSo_54 : decode cX10_isSo 54 = .ok (.goto (-50), 3) := by decide +kernel
theorem dX10_isSo_57 : decode cX10_isSo 57 = .ok (.iload_n 2, 1) := by decide +kernel
theorem dX10_isSo_58 : decode cX10_isSo 58 = .ok (.ireturn, 1) := by decide +kernel
theorem dX10_gone_0 : decode cX10_gone 0 = .ok (.iload_n 1, 1) := by decide +kernel
theorem dX10_gone_1 : decode cX10_gone 1 = .ok (.i2l, 1) := by decide +kernel
theorem dX10_gone_2 : decode cX10_gone 2 = .ok (.lconst 0, 1) := by decide +kernel
theorem dX10_gone_3 : decode cX10_gone 3 = .ok (.ldc2_w 270, 3) := by decide +kernel
theorem dX10_gone_6 : decode cX10_gone 6 = .ok (.invokestatic 134, 3) := by decide +kernel
theorem dX10_gone_9 : decode cX10_gone 9 = .ok (.ifCond .eq 15, 3) := by decide +kernel
theorem dX10_gone_12 : decode cX10_gone 12 = .ok (.iload_n 2, 1) := by decide +kernel
theorem dX10_gone_13 : decode cX10_gone 13 = .ok (.i2l, 1) := by decide +kernel
theorem dX10_gone_14 : decode cX10_gone 14 = .ok (.lconst 0, 1) := by decide +kernel
theorem dX10_gone_15 : decode cX10_gone 15 = .ok (.ldc2_w 249, 3) := by decide +kernel
theorem dX10_gone_18 : decode cX10_gone 18 = .ok (.invokestatic 134, 3) := by decide +kernel
theorem dX10_gone_21 : decode cX10_gone 21 = .ok (.ifCond .ne 5, 3) := by decide +kernel
theorem dX10_gone_24 : decode cX10_gone 24 = .ok (.iconst (-1), 1) := by decide +kernel
theorem dX10_gone_25 : decode cX10_gone 25 = .ok (.ireturn, 1) := by decide +kernel
theorem dX10_gone_26 : decode cX10_gone 26 = .ok (.aload_n 0, 1) := by decide +kernel
theorem dX10_gone_27 : decode cX10_gone 27 = .ok (.aload_n 0, 1) := by decide +kernel
theorem dX10_gone_28 : decode cX10_gone 28 = .ok (.getfield 7, 3) := by decide +kernel
theorem dX10_gone_31 : decode cX10_gone 31 = .ok (.iconst 0, 1) := by decide +kernel
theorem dX10_gone_32 : decode cX10_gone 32 = .ok (.iaload, 1) := by decide +kernel
theorem dX10_gone_33 : decode cX10_gone 33 = .ok (.invokevirtual 272, 3) := by decide +kernel
theorem dX10_gone_36 : decode cX10_gone 36 = .ok (.aload_n 0, 1) := by decide +kernel
theorem dX10_gone_37 : decode cX10_gone 37 = .ok (.invokevirtual 295, 3) := by decide +kernel
theorem dX10_gone_40 : decode cX10_gone 40 = .ok (.aload_n 0, 1) := by decide +kernel
theorem dX10_gone_41 : decode cX10_gone 41 = .ok (.iload_n 1, 1) := by decide +kernel
theorem dX10_gone_42 : decode cX10_gone 42 = .ok (.invokevirtual 275, 3) := by decide +kernel
theorem dX10_gone_45 : decode cX10_gone 45 = .ok (.aload_n 0, 1) := by decide +kernel
theorem dX10_gone_46 : decode cX10_gone 46 = .ok (.getfield 267, 3) := by decide +kernel
theorem dX10_gone_49 : decode cX10_gone 49 = .ok (.iload_n 1, 1) := by decide +kernel
theorem dX10_gone_50 : decode cX10_gone 50 = .ok (.if_icmp .lt 7, 3) := by decide +kernel
theorem dX10_gone_53 : decode cX10_gone 53 = .ok (.iconst 1, 1) := by decide +kernel
theorem dX10_gone_54 : decode cX10_gone 54 = .ok (.goto 4, 3) := by decide +kernel
theorem dX10_gone_57 : decode cX10_gone 57 = .ok (.iconst 0, 1) := by decide +kernel
theorem dX10_gone_58 : decode cX10_gone 58 = .ok (.istore_n 3, 1) := by decide +kernel
theorem dX10_gone_59 : decode cX10_gone 59 = .ok (.iload_n 3, 1) := by decide +kernel
theorem dX10_gone_60 : decode cX10_gone 60 = .ok (.ifCond .eq 43, 3) := by decide +kernel
theorem dX10_gone_63 : decode cX10_gone 63 = .ok (.aload_n 0, 1) := by decide +kernel
theorem dX10_gone_64 : decode cX10_gone 64 = .ok (.iload_n 1, 1) := by decide +kernel
theorem dX10_gone_65 : decode cX10_gone 65 = .ok (.invokevirtual 278, 3) := by decide +kernel
theorem dX10_gone_68 : decode cX10_gone 68 = .ok (.istore 4, 2) := by decide +kernel
theorem dX10_gone_70 : decode cX10_gone 70 = .ok (.aload_n 0, 1) := by decide +kernel
theorem dX10_gone_71 : decode cX10_gone 71 = .ok (.aload_n 0, 1) := by decide +kernel
theorem dX10_gone_72 : decode cX10_gone 72 = .ok (.getfield 7, 3) := by decide +kernel
theorem dX10_gone_75 : decode cX10_gone 75 = .ok (.iconst 0, 1) := by decide +kernel
theorem dX10_gone_76 : decode cX10_gone 76 = .ok (.iaload, 1) := by decide +kernel
theorem dX10_gone_77 : decode cX10_gone 77 = .ok (.iload 4, 2) := by decide +kernel
theorem dX10_gone_79 : decode cX10_gone 79 = .ok (.iconst (-1), 1) := by decide +kernel
theorem dX10_gone_80 : decode cX10_gone 80 = .ok (.ixor, 1) := by decide +kernel
theorem dX10_gone_81 : decode cX10_gone 81 = .ok (.iand, 1) := by decide +kernel
theorem dX10_gone_82 : decode cX10_gone 82 = .ok (.invokevirtual 348, 3) := by decide +kernel
theorem dX10_gone_85 : decode cX10_gone 85 = .ok (.ifCond .eq 9, 3) := by decide +kernel
theorem dX10_gone_88 : decode cX10_gone 88 = .ok (.aload_n 0, 1) := by decide +kernel
theorem dX10_gone_89 : decode cX10_gone 89 = .ok (.iload 4, 2) := by decide +kernel
theorem dX10_gone_91 : decode cX10_gone 91 = .ok (.invokevirtual 298, 3) := by decide +kernel
theorem dX10_gone_94 : decode cX10_gone 94 = .ok (.aload_n 0, 1) := by decide +kernel
theorem dX10_gone_95 : decode cX10_gone 95 = .ok (.iload_n 1, 1) := by decide +kernel
theorem dX10_gone_96 : decode cX10_gone 96 = .ok (.invokevirtual 281, 3) := by decide +kernel
theorem dX10_gone_99 : decode cX10_gone 99 = .ok (.istore_n 3, 1) := by decide +kernel
theorem dX10_gone_100 : decode cX10_gone 100 = .ok (.goto (-41), 3) := by decide +kernel
theorem dX10_gone_103 : decode cX10_gone 103 = .ok (.iload_n 2, 1) := by decide +kernel
theorem dX10_gone_104 : decode cX10_gone 104 = .ok (.ifCond .ne 10, 3) := by decide +kernel
theorem dX10_gone_107 : decode cX10_gone 107 = .ok (.aload_n 0, 1) := by decide +kernel
theorem dX10_gone_108 : decode cX10_gone 108 = .ok (.getfield 284, 3) := by decide +kernel
theorem dX10_gone_111 : decode cX10_gone 111 = .ok (.goto 31, 3) := by decide +kernel
theorem dX10_gone_114 : decode cX10_gone 114 = .ok (.aload_n 0, 1) := by decide +kernel
theorem dX10_gone_115 : decode cX10_gone 115 = .ok (.getfield 284, 3) := by decide +kernel
theorem dX10_gone_118 : decode cX10_gone 118 = .ok (.ifCond .ne 8, 3) := by decide +kernel
theorem dX10_gone_121 : decode cX10_gone 121 = .ok (.bipush (-4), 2) := by decide +kernel
theorem dX10_gone_123 : decode cX10_gone 123 = .ok (.goto 19, 3) := by decide +kernel
theorem dX10_gone_126 : decode cX10_gone 126 = .ok (.iload_n 2, 1) := by decide +kernel
theorem dX10_gone_127 : decode cX10_gone 127 = .ok (.iconst 1, 1) := by decide +kernel
theorem dX10_gone_128 : decode cX10_gone 128 = .ok (.if_icmp .ne 10, 3) := by decide +kernel
theorem dX10_gone_131 : decode cX10_gone 131 = .ok (.aload_n 0, 1) := by decide +kernel
theorem dX10_gone_132 : decode cX10_gone 132 = .ok (.getfield 287, 3) := by decide +kernel
theorem dX10_gone_135 : decode cX10_gone 135 = .ok (.goto 7, 3) := by decide +kernel
theorem dX10_gone_138 : decode cX10_gone 138 = .ok (.aload_n 0, 1) := by decide +kernel
theorem dX10_gone_139 : decode cX10_gone 139 = .ok (.getfield 290, 3) := by decide +kernel
theorem dX10_gone_142 : decode cX10_gone 142 = .ok (.ireturn, 1) := by decide +kernel
theorem dX10_play_0 : decode cX10_play 0 = .ok (.iload_n 2, 1) := by decide +kernel
theorem dX10_play_1 : decode cX10_play 1 = .ok (.i2l, 1) := by decide +kernel
theorem dX10_play_2 : decode cX10_play 2 = .ok (.lconst 0, 1) := by decide +kernel
theorem dX10_play_3 : decode cX10_play 3 = .ok (.ldc2_w 351, 3) := by decide +kernel
theorem dX10_play_6 : decode cX10_play 6 = .ok (.invokestatic 134, 3) := by decide +kernel
theorem dX10_play_9 : decode cX10_play 9 = .ok (.ifCond .ne 5, 3) := by decide +kernel
theorem dX10_play_12 : decode cX10_play 12 = .ok (.iconst (-1), 1) := by decide +kernel
theorem dX10_play_13 : decode cX10_play 13 = .ok (.ireturn, 1) := by decide +kernel
theorem dX10_play_14 : decode cX10_play 14 = .ok (.iload_n 1, 1) := by decide +kernel
theorem dX10_play_15 : decode cX10_play 15 = .ok (.istore_n 3, 1) := by decide +kernel
theorem dX10_play_16 : decode cX10_play 16 = .ok (.aload_n 0, 1) := by decide +kernel
theorem dX10_play_17 : decode cX10_play 17 = .ok (.getfield 7, 3) := by decide +kernel
theorem dX10_play_20 : decode cX10_play 20 = .ok (.iconst 0, 1) := by decide +kernel
theorem dX10_play_21 : decode cX10_play 21 = .ok (.iaload, 1) := by decide +kernel
theorem dX10_play_22 : decode cX10_play 22 = .ok (.istore 4, 2) := by decide +kernel
theorem dX10_play_24 : decode cX10_play 24 = .ok (.iconst 0, 1) := by decide +kernel
theorem dX10_play_25 : decode cX10_play 25 = .ok (.istore 5, 2) := by decide +kernel
theorem dX10_play_27 : decode cX10_play 27 = .ok (.iload 5, 2) := by decide +kernel
theorem dX10_play_29 : decode cX10_play 29 = .ok (.iload_n 2, 1) := by decide +kernel
theorem dX10_play_30 : decode cX10_play 30 = .ok (.if_icmp .ge 41, 3) := by decide +kernel
theorem dX10_play_33 : decode cX10_play 33 = .ok (.iload_n 3, 1) := by decide +kernel
theorem dX10_play_34 : decode cX10_play 34 = .ok (.ldc_w 353, 3) := by decide +kernel
theorem dX10_play_37 : decode cX10_play 37 = .ok (.imul, 1) := by decide +kernel
theorem dX10_play_38 : decode cX10_play 38 = .ok (.sipush 12345, 3) := by decide +kernel
theorem dX10_play_41 : decode cX10_play 41 = .ok (.iadd, 1) := by decide +kernel
theorem dX10_play_42 : decode cX10_play 42 = .ok (.istore_n 3, 1) := by decide +kernel
theorem dX10_play_43 : decode cX10_play 43 = .ok (.iload 4, 2) := by decide +kernel
theorem dX10_play_45 : decode cX10_play 45 = .ok (.iconst 1, 1) := by decide +kernel
theorem dX10_play_46 : decode cX10_play 46 = .ok (.iload_n 3, 1) := by decide +kernel
theorem dX10_play_47 : decode cX10_play 47 = .ok (.bipush 16, 2) := by decide +kernel
theorem dX10_play_49 : decode cX10_play 49 = .ok (.ishr, 1) := by decide +kernel
theorem dX10_play_50 : decode cX10_play 50 = .ok (.sipush 32767, 3) := by decide +kernel
theorem dX10_play_53 : decode cX10_play 53 = .ok (.iand, 1) := by decide +kernel
theorem dX10_play_54 : decode cX10_play 54 = .ok (.aload_n 0, 1) := by decide +kernel
theorem dX10_play_55 : decode cX10_play 55 = .ok (.getfield 123, 3) := by decide +kernel
theorem dX10_play_58 : decode cX10_play 58 = .ok (.irem, 1) := by decide +kernel
theorem dX10_play_59 : decode cX10_play 59 = .ok (.ishl, 1) := by decide +kernel
theorem dX10_play_60 : decode cX10_play 60 = .ok (.iconst (-1), 1) := by decide +kernel
theorem dX10_play_61 : decode cX10_play 61 = .ok (.ixor, 1) := by decide +kernel
theorem dX10_play_62 : decode cX10_play 62 = .ok (.iand, 1) := by decide +kernel
theorem dX10_play_63 : decode cX10_play 63 = .ok (.istore 4, 2) := by decide +kernel
theorem dX10_play_65 : decode cX10_play 65 = .ok (.iinc 5 1, 3) := by decide +kernel
theorem dX10_play_68 : decode cX10_play 68 = .ok (.goto (-41), 3) := by decide +kernel
theorem dX10_play_71 : decode cX10_play 71 = .ok (.aload_n 0, 1) := by decide +kernel
theorem dX10_play_72 : decode cX10_play 72 = .ok (.iload 4, 2) := by decide +kernel
theorem dX10_play_74 : decode cX10_play 74 = .ok (.invokevirtual 221, 3) := by decide +kernel
theorem dX10_play_77 : decode cX10_play 77 = .ok (.ireturn, 1) := by decide +kernel
theorem dX10_copies_0 : decode cX10_copies 0 = .ok (.iconst 0, 1) := by decide +kernel
theorem dX10_copies_1 : decode cX10_copies 1 = .ok (.istore_n 3, 1) := by decide +kernel
theorem dX10_copies_2 : decode cX10_copies 2 = .ok (.iload_n 3, 1) := by decide +kernel
theorem dX10_copies_3 : decode cX10_copies 3 = .ok (.bipush 36, 2) := by decide +kernel
theorem dX10_copies_5 : decode cX10_copies 5 = .ok (.if_icmp .ge 25, 3) := by decide +kernel
theorem dX10_copies_8 : decode cX10_copies 8 = .ok (.aload_n 0, 1) := by decide +kernel
theorem dX10_copies_9 : decode cX10_copies 9 = .ok (.getfield 7, 3) := by decide +kernel
theorem dX10_copies_12 : decode cX10_copies 12 = .ok (.iload_n 1, 1) := by decide +kernel
theorem dX10_copies_13 : decode cX10_copies 13 = .ok (.iload_n 3, 1) := by decide +kernel
theorem dX10_copies_14 : decode cX10_copies 14 = .ok (.iadd, 1) := by decide +kernel
theorem dX10_copies_15 : decode cX10_copies 15 = .ok (.aload_n 0, 1) := by decide +kernel
theorem dX10_copies_16 : decode cX10_copies 16 = .ok (.getfield 7, 3) := by decide +kernel
theorem dX10_copies_19 : decode cX10_copies 19 = .ok (.iload_n 2, 1) := by decide +kernel
theorem dX10_copies_20 : decode cX10_copies 20 = .ok (.iload_n 3, 1) := by decide +kernel
theorem dX10_copies_21 : decode cX10_copies 21 = .ok (.iadd, 1) := by decide +kernel
theorem dX10_copies_22 : decode cX10_copies 22 = .ok (.iaload, 1) := by decide +kernel
theorem dX10_copies_23 : decode cX10_copies 23 = .ok (.iastore, 1) := by decide +kernel
theorem dX10_copies_24 : decode cX10_copies 24 = .ok (.iinc 3 1, 3) := by decide +kernel
theorem dX10_copies_27 : decode cX10_copies 27 = .ok (.goto (-25), 3) := by decide +kernel
theorem dX10_copies_30 : decode cX10_copies 30 = .ok (.return_, 1) := by decide +kernel
theorem dX10_keep_0 : decode cX10_keep 0 = .ok (.iload_n 1, 1) := by decide +kernel
theorem dX10_keep_1 : decode cX10_keep 1 = .ok (.i2l, 1) := by decide +kernel
theorem dX10_keep_2 : decode cX10_keep 2 = .ok (.lconst 0, 1) := by decide +kernel
theorem dX10_keep_3 : decode cX10_keep 3 = .ok (.lconst 1, 1) := by decide +kernel
theorem dX10_keep_4 : decode cX10_keep 4 = .ok (.invokestatic 134, 3) := by decide +kernel
theorem dX10_keep_7 : decode cX10_keep 7 = .ok (.ifCond .ne 5, 3) := by decide +kernel
theorem dX10_keep_10 : decode cX10_keep 10 = .ok (.iconst (-1), 1) := by decide +kernel
theorem dX10_keep_11 : decode cX10_keep 11 = .ok (.ireturn, 1) := by decide +kernel
theorem dX10_keep_12 : decode cX10_keep 12 = .ok (.aload_n 0, 1) := by decide +kernel
theorem dX10_keep_13 : decode cX10_keep 13 = .ok (.getfield 13, 3) := by decide +kernel
theorem dX10_keep_16 : decode cX10_keep 16 = .ok (.iload_n 1, 1) := by decide +kernel
theorem dX10_keep_17 : decode cX10_keep 17 = .ok (.baload, 1) := by decide +kernel
theorem dX10_keep_18 : decode cX10_keep 18 = .ok (.invokestatic 209, 3) := by decide +kernel
theorem dX10_keep_21 : decode cX10_keep 21 = .ok (.istore_n 2, 1) := by decide +kernel
theorem dX10_keep_22 : decode cX10_keep 22 = .ok (.aload_n 0, 1) := by decide +kernel
theorem dX10_keep_23 : decode cX10_keep 23 = .ok (.getfield 13, 3) := by decide +kernel
theorem dX10_keep_26 : decode cX10_keep 26 = .ok (.iload_n 1, 1) := by decide +kernel
theorem dX10_keep_27 : decode cX10_keep 27 = .ok (.iconst 1, 1) := by decide +kernel
theorem dX10_keep_28 : decode cX10_keep 28 = .ok (.bastore, 1) := by decide +kernel
theorem dX10_keep_29 : decode cX10_keep 29 = .ok (.aload_n 0, 1) := by decide +kernel
theorem dX10_keep_30 : decode cX10_keep 30 = .ok (.bipush 36, 2) := by decide +kernel
theorem dX10_keep_32 : decode cX10_keep 32 = .ok (.iload_n 1, 1) := by decide +kernel
theorem dX10_keep_33 : decode cX10_keep 33 = .ok (.iconst 1, 1) := by decide +kernel
theorem dX10_keep_34 : decode cX10_keep 34 = .ok (.iadd, 1) := by decide +kernel
theorem dX10_keep_35 : decode cX10_keep 35 = .ok (.imul, 1) := by decide +kernel
theorem dX10_keep_36 : decode cX10_keep 36 = .ok (.iconst 0, 1) := by decide +kernel
theorem dX10_keep_37 : decode cX10_keep 37 = .ok (.invokevirtual 354, 3) := by decide +kernel
theorem dX10_keep_40 : decode cX10_keep 40 = .ok (.iload_n 2, 1) := by decide +kernel
theorem dX10_keep_41 : decode cX10_keep 41 = .ok (.ireturn, 1) := by decide +kernel
theorem dX10_back_0 : decode cX10_back 0 = .ok (.iload_n 1, 1) := by decide +kernel
theorem dX10_back_1 : decode cX10_back 1 = .ok (.i2l, 1) := by decide +kernel
theorem dX10_back_2 : decode cX10_back 2 = .ok (.lconst 0, 1) := by decide +kernel
theorem dX10_back_3 : decode cX10_back 3 = .ok (.lconst 1, 1) := by decide +kernel
theorem dX10_back_4 : decode cX10_back 4 = .ok (.invokestatic 134, 3) := by decide +kernel
theorem dX10_back_7 : decode cX10_back 7 = .ok (.ifCond .ne 5, 3) := by decide +kernel
theorem dX10_back_10 : decode cX10_back 10 = .ok (.iconst (-1), 1) := by decide +kernel
theorem dX10_back_11 : decode cX10_back 11 = .ok (.ireturn, 1) := by decide +kernel
theorem dX10_back_12 : decode cX10_back 12 = .ok (.aload_n 0, 1) := by decide +kernel
theorem dX10_back_13 : decode cX10_back 13 = .ok (.getfield 13, 3) := by decide +kernel
theorem dX10_back_16 : decode cX10_back 16 = .ok (.iload_n 1, 1) := by decide +kernel
theorem dX10_back_17 : decode cX10_back 17 = .ok (.baload, 1) := by decide +kernel
theorem dX10_back_18 : decode cX10_back 18 = .ok (.ifCond .ne 6, 3) := by decide +kernel
theorem dX10_back_21 : decode cX10_back 21 = .ok (.bipush (-2), 2) := by decide +kernel
theorem dX10_back_23 : decode cX10_back 23 = .ok (.ireturn, 1) := by decide +kernel
theorem dX10_back_24 : decode cX10_back 24 = .ok (.aload_n 0, 1) := by decide +kernel
theorem dX10_back_25 : decode cX10_back 25 = .ok (.iconst 0, 1) := by decide +kernel
theorem dX10_back_26 : decode cX10_back 26 = .ok (.bipush 36, 2) := by decide +kernel
theorem dX10_back_28 : decode cX10_back 28 = .ok (.iload_n 1, 1) := by decide +kernel
theorem dX10_back_29 : decode cX10_back 29 = .ok (.iconst 1, 1) := by decide +kernel
theorem dX10_back_30 : decode cX10_back 30 = .ok (.iadd, 1) := by decide +kernel
theorem dX10_back_31 : decode cX10_back 31 = .ok (.imul, 1) := by decide +kernel
theorem dX10_back_32 : decode cX10_back 32 = .ok (.invokevirtual 354, 3) := by decide +kernel
theorem dX10_back_35 : decode cX10_back 35 = .ok (.aload_n 0, 1) := by decide +kernel
theorem dX10_back_36 : decode cX10_back 36 = .ok (.aload_n 0, 1) := by decide +kernel
theorem dX10_back_37 : decode cX10_back 37 = .ok (.getfield 7, 3) := by decide +kernel
theorem dX10_back_40 : decode cX10_back 40 = .ok (.iconst 0, 1) := by decide +kernel
theorem dX10_back_41 : decode cX10_back 41 = .ok (.iaload, 1) := by decide +kernel
theorem dX10_back_42 : decode cX10_back 42 = .ok (.invokevirtual 221, 3) := by decide +kernel
theorem dX10_back_45 : decode cX10_back 45 = .ok (.ireturn, 1) := by decide +kernel
theorem dX10_isSheet_0 : decode cX10_isSheet 0 = .ok (.iload_n 0, 1) := by decide +kernel
theorem dX10_isSheet_1 : decode cX10_isSheet 1 = .ok (.i2l, 1) := by decide +kernel
theorem dX10_isSheet_2 : decode cX10_isSheet 2 = .ok (.lconst 0, 1) := by decide +kernel
theorem dX10_isSheet_3 : decode cX10_isSheet 3 = .ok (.ldc2_w 216, 3) := by decide +kernel
theorem dX10_isSheet_6 : decode cX10_isSheet 6 = .ok (.invokestatic 134, 3) := by decide +kernel
theorem dX10_isSheet_9 : decode cX10_isSheet 9 = .ok (.ifCond .eq 19, 3) := by decide +kernel
theorem dX10_isSheet_12 : decode cX10_isSheet 12 = .ok (.iload_n 1, 1) := by decide +kernel
theorem dX10_isSheet_13 : decode cX10_isSheet 13 = .ok (.i2l, 1) := by decide +kernel
theorem dX10_isSheet_14 : decode cX10_isSheet 14 = .ok (.lconst 0, 1) := by decide +kernel
theorem dX10_isSheet_15 : decode cX10_isSheet 15 = .ok (.ldc2_w 249, 3) := by decide +kernel
theorem dX10_isSheet_18 : decode cX10_isSheet 18 = .ok (.invokestatic 134, 3) := by decide +kernel
theorem dX10_isSheet_21 : decode cX10_isSheet 21 = .ok (.ifCond .eq 7, 3) := by decide +kernel
theorem dX10_isSheet_24 : decode cX10_isSheet 24 = .ok (.iconst 1, 1) := by decide +kernel
theorem dX10_isSheet_25 : decode cX10_isSheet 25 = .ok (.goto 4, 3) := by decide +kernel
theorem dX10_isSheet_28 : decode cX10_isSheet 28 = .ok (.iconst 0, 1) := by decide +kernel
theorem dX10_isSheet_29 : decode cX10_isSheet 29 = .ok (.ireturn, 1) := by decide +kernel
theorem dX10_sheet_0 : decode cX10_sheet 0 = .ok (.iload_n 1, 1) := by decide +kernel
theorem dX10_sheet_1 : decode cX10_sheet 1 = .ok (.iload_n 2, 1) := by decide +kernel
theorem dX10_sheet_2 : decode cX10_sheet 2 = .ok (.invokestatic 357, 3) := by decide +kernel
theorem dX10_sheet_5 : decode cX10_sheet 5 = .ok (.ifCond .eq 9, 3) := by decide +kernel
theorem dX10_sheet_8 : decode cX10_sheet 8 = .ok (.iload_n 3, 1) := by decide +kernel
theorem dX10_sheet_9 : decode cX10_sheet 9 = .ok (.bipush 40, 2) := by decide +kernel
theorem dX10_sheet_11 : decode cX10_sheet 11 = .ok (.if_icmp .le 5, 3) := by decide +kernel
theorem dX10_sheet_14 : decode cX10_sheet 14 = .ok (.iconst (-1), 1) := by decide +kernel
theorem dX10_sheet_15 : decode cX10_sheet 15 = .ok (.ireturn, 1) := by decide +kernel
theorem dX10_sheet_16 : decode cX10_sheet 16 = .ok (.iload_n 3, 1) := by decide +kernel
theorem dX10_sheet_17 : decode cX10_sheet 17 = .ok (.ifCond .ge 6, 3) := by decide +kernel
theorem dX10_sheet_20 : decode cX10_sheet 20 = .ok (.bipush (-14), 2) := by decide +kernel
theorem dX10_sheet_22 : decode cX10_sheet 22 = .ok (.ireturn, 1) := by decide +kernel
theorem dX10_sheet_23 : decode cX10_sheet 23 = .ok (.aload_n 0, 1) := by decide +kernel
theorem dX10_sheet_24 : decode cX10_sheet 24 = .ok (.getfield 68, 3) := by decide +kernel
theorem dX10_sheet_27 : decode cX10_sheet 27 = .ok (.iload_n 1, 1) := by decide +kernel
theorem dX10_sheet_28 : decode cX10_sheet 28 = .ok (.iload_n 2, 1) := by decide +kernel
theorem dX10_sheet_29 : decode cX10_sheet 29 = .ok (.iastore, 1) := by decide +kernel
theorem dX10_sheet_30 : decode cX10_sheet 30 = .ok (.aload_n 0, 1) := by decide +kernel
theorem dX10_sheet_31 : decode cX10_sheet 31 = .ok (.getfield 71, 3) := by decide +kernel
theorem dX10_sheet_34 : decode cX10_sheet 34 = .ok (.iload_n 1, 1) := by decide +kernel
theorem dX10_sheet_35 : decode cX10_sheet 35 = .ok (.iload_n 3, 1) := by decide +kernel
theorem dX10_sheet_36 : decode cX10_sheet 36 = .ok (.iastore, 1) := by decide +kernel
theorem dX10_sheet_37 : decode cX10_sheet 37 = .ok (.iconst 0, 1) := by decide +kernel
theorem dX10_sheet_38 : decode cX10_sheet 38 = .ok (.istore 4, 2) := by decide +kernel
theorem dX10_sheet_40 : decode cX10_sheet 40 = .ok (.iload 4, 2) := by decide +kernel
theorem dX10_sheet_42 : decode cX10_sheet 42 = .ok (.bipush 40, 2) := by decide +kernel
theorem dX10_sheet_44 : decode cX10_sheet 44 = .ok (.if_icmp .ge 22, 3) := by decide +kernel
theorem dX10_sheet_47 : decode cX10_sheet 47 = .ok (.aload_n 0, 1) := by decide +kernel
theorem dX10_sheet_48 : decode cX10_sheet 48 = .ok (.getfield 74, 3) := by decide +kernel
theorem dX10_sheet_51 : decode cX10_sheet 51 = .ok (.bipush 40, 2) := by decide +kernel
theorem dX10_sheet_53 : decode cX10_sheet 53 = .ok (.iload_n 1, 1) := by decide +kernel
theorem dX10_sheet_54 : decode cX10_sheet 54 = .ok (.imul, 1) := by decide +kernel
theorem dX10_sheet_55 : decode cX10_sheet 55 = .ok (.iload 4, 2) := by decide +kernel
theorem dX10_sheet_57 : decode cX10_sheet 57 = .ok (.iadd, 1) := by decide +kernel
theorem dX10_sheet_58 : decode cX10_sheet 58 = .ok (.iconst 0, 1) := by decide +kernel
theorem dX10_sheet_59 : decode cX10_sheet 59 = .ok (.iastore, 1) := by decide +kernel
theorem dX10_sheet_60 : decode cX10_sheet 60 = .ok (.iinc 4 1, 3) := by decide +kernel
theorem dX10_sheet_63 : decode cX10_sheet 63 = .ok (.goto (-23), 3) := by decide +kernel
theorem dX10_sheet_66 : decode cX10_sheet 66 = .ok (.iconst 1, 1) := by decide +kernel
theorem dX10_sheet_67 : decode cX10_sheet 67 = .ok (.ireturn, 1) := by decide +kernel
theorem dX10_lay_0 : decode cX10_lay 0 = .ok (.iload_n 1, 1) := by decide +kernel
theorem dX10_lay_1 : decode cX10_lay 1 = .ok (.iconst 0, 1) := by decide +kernel
theorem dX10_lay_2 : decode cX10_lay 2 = .ok (.invokestatic 357, 3) := by decide +kernel
theorem dX10_lay_5 : decode cX10_lay 5 = .ok (.ifCond .ne 5, 3) := by decide +kernel
theorem dX10_lay_8 : decode cX10_lay 8 = .ok (.iconst (-1), 1) := by decide +kernel
theorem dX10_lay_9 : decode cX10_lay 9 = .ok (.ireturn, 1) := by decide +kernel
theorem dX10_lay_10 : decode cX10_lay 10 = .ok (.aload_n 0, 1) := by decide +kernel
theorem dX10_lay_11 : decode cX10_lay 11 = .ok (.getfield 68, 3) := by decide +kernel
theorem dX10_lay_14 : decode cX10_lay 14 = .ok (.iload_n 1, 1) := by decide +kernel
theorem dX10_lay_15 : decode cX10_lay 15 = .ok (.iaload, 1) := by decide +kernel
theorem dX10_lay_16 : decode cX10_lay 16 = .ok (.bipush (-4), 2) := by decide +kernel
theorem dX10_lay_18 : decode cX10_lay 18 = .ok (.if_icmp .ne 6, 3) := by decide +kernel
theorem dX10_lay_21 : decode cX10_lay 21 = .ok (.bipush (-11), 2) := by decide +kernel
theorem dX10_lay_23 : decode cX10_lay 23 = .ok (.ireturn, 1) := by decide +kernel
theorem dX10_lay_24 : decode cX10_lay 24 = .ok (.iload_n 2, 1) := by decide +kernel
theorem dX10_lay_25 : decode cX10_lay 25 = .ok (.i2l, 1) := by decide +kernel
theorem dX10_lay_26 : decode cX10_lay 26 = .ok (.lconst 0, 1) := by decide +kernel
theorem dX10_lay_27 : decode cX10_lay 27 = .ok (.aload_n 0, 1) := by decide +kernel
theorem dX10_lay_28 : decode cX10_lay 28 = .ok (.getfield 71, 3) := by decide +kernel
theorem dX10_lay_31 : decode cX10_lay 31 = .ok (.iload_n 1, 1) := by decide +kernel
theorem dX10_lay_32 : decode cX10_lay 32 = .ok (.iaload, 1) := by decide +kernel
theorem dX10_lay_33 : decode cX10_lay 33 = .ok (.iconst 1, 1) := by decide +kernel
theorem dX10_lay_34 : decode cX10_lay 34 = .ok (.isub, 1) := by decide +kernel
theorem dX10_lay_35 : decode cX10_lay 35 = .ok (.i2l, 1) := by decide +kernel
theorem dX10_lay_36 : decode cX10_lay 36 = .ok (.invokestatic 134, 3) := by decide +kernel
theorem dX10_lay_39 : decode cX10_lay 39 = .ok (.ifCond .ne 6, 3) := by decide +kernel
theorem dX10_lay_42 : decode cX10_lay 42 = .ok (.bipush (-12), 2) := by decide +kernel
theorem dX10_lay_44 : decode cX10_lay 44 = .ok (.ireturn, 1) := by decide +kernel
theorem dX10_lay_45 : decode cX10_lay 45 = .ok (.aload_n 0, 1) := by decide +kernel
theorem dX10_lay_46 : decode cX10_lay 46 = .ok (.getfield 74, 3) := by decide +kernel
theorem dX10_lay_49 : decode cX10_lay 49 = .ok (.bipush 40, 2) := by decide +kernel
theorem dX10_lay_51 : decode cX10_lay 51 = .ok (.iload_n 1, 1) := by decide +kernel
theorem dX10_lay_52 : decode cX10_lay 52 = .ok (.imul, 1) := by decide +kernel
theorem dX10_lay_53 : decode cX10_lay 53 = .ok (.iload_n 2, 1) := by decide +kernel
theorem dX10_lay_54 : decode cX10_lay 54 = .ok (.iadd, 1) := by decide +kernel
theorem dX10_lay_55 : decode cX10_lay 55 = .ok (.aload_n 0, 1) := by decide +kernel
theorem dX10_lay_56 : decode cX10_lay 56 = .ok (.getfield 68, 3) := by decide +kernel
theorem dX10_lay_59 : decode cX10_lay 59 = .ok (.iload_n 1, 1) := by decide +kernel
theorem dX10_lay_60 : decode cX10_lay 60 = .ok (.iaload, 1) := by decide +kernel
theorem dX10_lay_61 : decode cX10_lay 61 = .ok (.ifCond .ne 8, 3) := by decide +kernel
theorem dX10_lay_64 : decode cX10_lay 64 = .ok (.iload_n 3, 1) := by decide +kernel
theorem dX10_lay_65 : decode cX10_lay 65 = .ok (.i2b, 1) := by decide +kernel
theorem dX10_lay_66 : decode cX10_lay 66 = .ok (.goto 19, 3) := by decide +kernel
theorem dX10_lay_69 : decode cX10_lay 69 = .ok (.aload_n 0, 1) := by decide +kernel
theorem dX10_lay_70 : decode cX10_lay 70 = .ok (.getfield 68, 3) := by decide +kernel
theorem dX10_lay_73 : decode cX10_lay 73 = .ok (.iload_n 1, 1) := by decide +kernel
theorem dX10_lay_74 : decode cX10_lay 74 = .ok (.iaload, 1) := by decide +kernel
theorem dX10_lay_75 : decode cX10_lay 75 = .ok (.iconst 1, 1) := by decide +kernel
theorem dX10_lay_76 : decode cX10_lay 76 = .ok (.if_icmp .ne 8, 3) := by decide +kernel
theorem dX10_lay_79 : decode cX10_lay 79 = .ok (.iload_n 3, 1) := by decide +kernel
theorem dX10_lay_80 : decode cX10_lay 80 = .ok (.i2s, 1) := by decide +kernel
theorem dX10_lay_81 : decode cX10_lay 81 = .ok (.goto 4, 3) := by decide +kernel
theorem dX10_lay_84 : decode cX10_lay 84 = .ok (.iload_n 3, 1) := by decide +kernel
theorem dX10_lay_85 : decode cX10_lay 85 = .ok (.iastore, 1) := by decide +kernel
theorem dX10_lay_86 : decode cX10_lay 86 = .ok (.iconst 1, 1) := by decide +kernel
theorem dX10_lay_87 : decode cX10_lay 87 = .ok (.ireturn, 1) := by decide +kernel
theorem dX10_read_0 : decode cX10_read 0 = .ok (.iload_n 1, 1) := by decide +kernel
theorem dX10_read_1 : decode cX10_read 1 = .ok (.iload_n 2, 1) := by decide +kernel
theorem dX10_read_2 : decode cX10_read 2 = .ok (.invokestatic 357, 3) := by decide +kernel
theorem dX10_read_5 : decode cX10_read 5 = .ok (.ifCond .eq 16, 3) := by decide +kernel
theorem dX10_read_8 : decode cX10_read 8 = .ok (.iload 4, 2) := by decide +kernel
theorem dX10_read_10 : decode cX10_read 10 = .ok (.i2l, 1) := by decide +kernel
theorem dX10_read_11 : decode cX10_read 11 = .ok (.lconst 0, 1) := by decide +kernel
theorem dX10_read_12 : decode cX10_read 12 = .ok (.ldc2_w 293, 3) := by decide +kernel
theorem dX10_read_15 : decode cX10_read 15 = .ok (.invokestatic 134, 3) := by decide +kernel
theorem dX10_read_18 : decode cX10_read 18 = .ok (.ifCond .ne 5, 3) := by decide +kernel
theorem dX10_read_21 : decode cX10_read 21 = .ok (.iconst (-1), 1) := by decide +kernel
theorem dX10_read_22 : decode cX10_read 22 = .ok (.ireturn, 1) := by decide +kernel
theorem dX10_read_23 : decode cX10_read 23 = .ok (.aload_n 0, 1) := by decide +kernel
theorem dX10_read_24 : decode cX10_read 24 = .ok (.getfield 7, 3) := by decide +kernel
theorem dX10_read_27 : decode cX10_read 27 = .ok (.iconst 0, 1) := by decide +kernel
theorem dX10_read_28 : decode cX10_read 28 = .ok (.iaload, 1) := by decide +kernel
theorem dX10_read_29 : decode cX10_read 29 = .ok (.istore 5, 2) := by decide +kernel
theorem dX10_read_31 : decode cX10_read 31 = .ok (.iconst 0, 1) := by decide +kernel
theorem dX10_read_32 : decode cX10_read 32 = .ok (.istore 6, 2) := by decide +kernel
theorem dX10_read_34 : decode cX10_read 34 = .ok (.iconst 0, 1) := by decide +kernel
theorem dX10_read_35 : decode cX10_read 35 = .ok (.istore 7, 2) := by decide +kernel
theorem dX10_read_37 : decode cX10_read 37 = .ok (.iconst 0, 1) := by decide +kernel
theorem dX10_read_38 : decode cX10_read 38 = .ok (.istore 8, 2) := by decide +kernel
theorem dX10_read_40 : decode cX10_read 40 = .ok (.iload 8, 2) := by decide +kernel
theorem dX10_read_42 : decode cX10_read 42 = .ok (.iload 4, 2) := by decide +kernel
theorem dX10_read_44 : decode cX10_read 44 = .ok (.if_icmp .ge 121, 3) := by decide +kernel
theorem dX10_read_47 : decode cX10_read 47 = .ok (.iload 6, 2) := by decide +kernel
theorem dX10_read_49 : decode cX10_read 49 = .ok (.ifCond .ne 116, 3) := by decide +kernel
theorem dX10_read_52 : decode cX10_read 52 = .ok (.iload_n 3, 1) := by decide +kernel
theorem dX10_read_53 : decode cX10_read 53 = .ok (.i2l, 1) := by decide +kernel
theorem dX10_read_54 : decode cX10_read 54 = .ok (.iload 8, 2) := by decide +kernel
theorem dX10_read_56 : decode cX10_read 56 = .ok (.i2l, 1) := by decide +kernel
theorem dX10_read_57 : decode cX10_read 57 = .ok (.ladd, 1) := by decide +kernel
theorem dX10_read_58 : decode cX10_read 58 = .ok (.lstore 9, 2) := by decide +kernel
theorem dX10_read_60 : decode cX10_read 60 = .ok (.aload_n 0, 1) := by decide +kernel
theorem dX10_read_61 : decode cX10_read 61 = .ok (.getfield 68, 3) := by decide +kernel
theorem dX10_read_64 : decode cX10_read 64 = .ok (.iload_n 1, 1) := by decide +kernel
theorem dX10_read_65 : decode cX10_read 65 = .ok (.iaload, 1) := by decide +kernel
theorem dX10_read_66 : decode cX10_read 66 = .ok (.bipush (-4), 2) := by decide +kernel
theorem dX10_read_68 : decode cX10_read 68 = .ok (.if_icmp .ne 7, 3) := by decide +kernel
theorem dX10_read_71 : decode cX10_read 71 = .ok (.iconst 1, 1) := by decide +kernel
theorem dX10_read_72 : decode cX10_read 72 = .ok (.goto 42, 3) := by decide +kernel
theorem dX10_read_75 : decode cX10_read 75 = .ok (.aload_n 0, 1) := by decide +kernel
theorem dX10_read_76 : decode cX10_read 76 = .ok (.getfield 68, 3) := by decide +kernel
theorem dX10_read_79 : decode cX10_read 79 = .ok (.iload_n 1, 1) := by decide +kernel
theorem dX10_read_80 : decode cX10_read 80 = .ok (.iaload, 1) := by decide +kernel
theorem dX10_read_81 : decode cX10_read 81 = .ok (.iload_n 2, 1) := by decide +kernel
theorem dX10_read_82 : decode cX10_read 82 = .ok (.if_icmp .eq 7, 3) := by decide +kernel
theorem dX10_read_85 : decode cX10_read 85 = .ok (.iconst 3, 1) := by decide +kernel
theorem dX10_read_86 : decode cX10_read 86 = .ok (.goto 28, 3) := by decide +kernel
theorem dX10_read_89 : decode cX10_read 89 = .ok (.lload 9, 2) := by decide +kernel
theorem dX10_read_91 : decode cX10_read 91 = .ok (.lconst 0, 1) := by decide +kernel
theorem dX10_read_92 : decode cX10_read 92 = .ok (.lcmp, 1) := by decide +kernel
theorem dX10_read_93 : decode cX10_read 93 = .ok (.ifCond .lt 16, 3) := by decide +kernel
theorem dX10_read_96 : decode cX10_read 96 = .ok (.lload 9, 2) := by decide +kernel
theorem dX10_read_98 : decode cX10_read 98 = .ok (.aload_n 0, 1) := by decide +kernel
theorem dX10_read_99 : decode cX10_read 99 = .ok (.getfield 71, 3) := by decide +kernel
theorem dX10_read_102 : decode cX10_read 102 = .ok (.iload_n 1, 1) := by decide +kernel
theorem dX10_read_103 : decode cX10_read 103 = .ok (.iaload, 1) := by decide +kernel
theorem dX10_read_104 : decode cX10_read 104 = .ok (.i2l, 1) := by decide +kernel
theorem dX10_read_105 : decode cX10_read 105 = .ok (.lcmp, 1) := by decide +kernel
theorem dX10_read_106 : decode cX10_read 106 = .ok (.ifCond .lt 7, 3) := by decide +kernel
theorem dX10_read_109 : decode cX10_read 109 = .ok (.iconst 2, 1) := by decide +kernel
theorem dX10_read_110 : decode cX10_read 110 = .ok (.goto 4, 3) := by decide +kernel
theorem dX10_read_113 : decode cX10_read 113 = .ok (.iconst 0, 1) := by decide +kernel
theorem dX10_read_114 : decode cX10_read 114 = .ok (.istore 6, 2) := by decide +kernel
theorem dX10_read_116 : decode cX10_read 116 = .ok (.iload 6, 2) := by decide +kernel
theorem dX10_read_118 : decode cX10_read 118 = .ok (.ifCond .ne 41, 3) := by decide +kernel
theorem dX10_read_121 : decode cX10_read 121 = .ok (.aload_n 0, 1) := by decide +kernel
theorem dX10_read_122 : decode cX10_read 122 = .ok (.aload_n 0, 1) := by decide +kernel
theorem dX10_read_123 : decode cX10_read 123 = .ok (.getfield 74, 3) := by decide +kernel
theorem dX10_read_126 : decode cX10_read 126 = .ok (.bipush 40, 2) := by decide +kernel
theorem dX10_read_128 : decode cX10_read 128 = .ok (.iload_n 1, 1) := by decide +kernel
theorem dX10_read_129 : decode cX10_read 129 = .ok (.imul, 1) := by decide +kernel
theorem dX10_read_130 : decode cX10_read 130 = .ok (.iload_n 3, 1) := by decide +kernel
theorem dX10_read_131 : decode cX10_read 131 = .ok (.iadd, 1) := by decide +kernel
theorem dX10_read_132 : decode cX10_read 132 = .ok (.iload 8, 2) := by decide +kernel
theorem dX10_read_134 : decode cX10_read 134 = .ok (.iadd, 1) := by decide +kernel
theorem dX10_read_135 : decode cX10_read 135 = .ok (.iaload, 1) := by decide +kernel
theorem dX10_read_136 : decode cX10_read 136 = .ok (.invokevirtual 360, 3) := by decide +kernel
theorem dX10_read_139 : decode cX10_read 139 = .ok (.ifCond .ge 17, 3) := by decide +kernel
theorem dX10_read_142 : decode cX10_read 142 = .ok (.aload_n 0, 1) := by decide +kernel
theorem dX10_read_143 : decode cX10_read 143 = .ok (.getfield 7, 3) := by decide +kernel
theorem dX10_read_146 : decode cX10_read 146 = .ok (.iconst 0, 1) := by decide +kernel
theorem dX10_read_147 : decode cX10_read 147 = .ok (.iload 5, 2) := by decide +kernel
theorem dX10_read_149 : decode cX10_read 149 = .ok (.iastore, 1) := by decide +kernel
theorem dX10_read_150 : decode cX10_read 150 = .ok (.bipush (-20), 2) := by decide +kernel
theorem dX10_read_152 : decode cX10_read 152 = .ok (.iload 8, 2) := by decide +kernel
theorem dX10_read_154 : decode cX10_read 154 = .ok (.isub, 1) := by decide +kernel
theorem dX10_read_155 : decode cX10_read 155 = .ok (.ireturn, 1) := by decide +kernel
theorem dX10_read_156 : decode cX10_read 156 = .ok (.iinc 7 1, 3) := by decide +kernel
theorem dX10_read_159 : decode cX10_read 159 = .ok (.iinc 8 1, 3) := by decide +kernel
theorem dX10_read_162 : decode cX10_read 162 = .ok (.goto (-122), 3) := by decide +kernel
theorem dX10_read_165 : decode cX10_read 165 = .ok (.aload_n 0, 1) := by decide +kernel
theorem dX10_read_166 : decode cX10_read 166 = .ok (.iload 6, 2) := by decide +kernel
theorem dX10_read_168 : decode cX10_read 168 = .ok (.putfield 363, 3) := by decide +kernel
theorem dX10_read_171 : decode cX10_read 171 = .ok (.iload 7, 2) := by decide +kernel
theorem dX10_read_173 : decode cX10_read 173 = .ok (.ireturn, 1) := by decide +kernel
theorem dX10_torn_0 : decode cX10_torn 0 = .ok (.aload_n 0, 1) := by decide +kernel
theorem dX10_torn_1 : decode cX10_torn 1 = .ok (.getfield 363, 3) := by decide +kernel
theorem dX10_torn_4 : decode cX10_torn 4 = .ok (.ireturn, 1) := by decide +kernel
theorem dX10_count_0 : decode cX10_count 0 = .ok (.iconst 0, 1) := by decide +kernel
theorem dX10_count_1 : decode cX10_count 1 = .ok (.istore_n 2, 1) := by decide +kernel
theorem dX10_count_2 : decode cX10_count 2 = .ok (.iconst 1, 1) := by decide +kernel
theorem dX10_count_3 : decode cX10_count 3 = .ok (.istore_n 3, 1) := by decide +kernel
theorem dX10_count_4 : decode cX10_count 4 = .ok (.iload_n 3, 1) := by decide +kernel
theorem dX10_count_5 : decode cX10_count 5 = .ok (.iconst 3, 1) := by decide +kernel
theorem dX10_count_6 : decode cX10_count 6 = .ok (.if_icmp .gt 34, 3) := by decide +kernel
theorem dX10_count_9 : decode cX10_count 9 = .ok (.iload_n 2, 1) := by decide +kernel
theorem dX10_count_10 : decode cX10_count 10 = .ok (.aload_n 0, 1) := by decide +kernel
theorem dX10_count_11 : decode cX10_count 11 = .ok (.getfield 7, 3) := by decide +kernel
theorem dX10_count_14 : decode cX10_count 14 = .ok (.bipush 32, 2) := by decide +kernel
theorem dX10_count_16 : decode cX10_count 16 = .ok (.iload_n 3, 1) := by decide +kernel
theorem dX10_count_17 : decode cX10_count 17 = .ok (.iadd, 1) := by decide +kernel
theorem dX10_count_18 : decode cX10_count 18 = .ok (.iaload, 1) := by decide +kernel
theorem dX10_count_19 : decode cX10_count 19 = .ok (.bipush (-4), 2) := by decide +kernel
theorem dX10_count_21 : decode cX10_count 21 = .ok (.if_icmp .eq 7, 3) := by decide +kernel
theorem dX10_count_24 : decode cX10_count 24 = .ok (.iconst 1, 1) := by decide +kernel
theorem dX10_count_25 : decode cX10_count 25 = .ok (.goto 4, 3) := by decide +kernel
theorem dX10_count_28 : decode cX10_count 28 = .ok (.iconst 0, 1) := by decide +kernel
theorem dX10_count_29 : decode cX10_count 29 = .ok (.invokestatic 209, 3) := by decide +kernel
theorem dX10_count_32 : decode cX10_count 32 = .ok (.iadd, 1) := by decide +kernel
theorem dX10_count_33 : decode cX10_count 33 = .ok (.istore_n 2, 1) := by decide +kernel
theorem dX10_count_34 : decode cX10_count 34 = .ok (.iinc 3 1, 3) := by decide +kernel
theorem dX10_count_37 : decode cX10_count 37 = .ok (.goto (-33), 3) := by decide +kernel
theorem dX10_count_40 : decode cX10_count 40 = .ok (.iconst 0, 1) := by decide +kernel
theorem dX10_count_41 : decode cX10_count 41 = .ok (.istore_n 3, 1) := by decide +kernel
theorem dX10_count_42 : decode cX10_count 42 = .ok (.iconst 0, 1) := by decide +kernel
theorem dX10_count_43 : decode cX10_count 43 = .ok (.istore 4, 2) := by decide +kernel
theorem dX10_count_45 : decode cX10_count 45 = .ok (.iload 4, 2) := by decide +kernel
theorem dX10_count_47 : decode cX10_count 47 = .ok (.aload_n 0, 1) := by decide +kernel
theorem dX10_count_48 : decode cX10_count 48 = .ok (.getfield 123, 3) := by decide +kernel
theorem dX10_count_51 : decode cX10_count 51 = .ok (.if_icmp .ge 34, 3) := by decide +kernel
theorem dX10_count_54 : decode cX10_count 54 = .ok (.iload_n 3, 1) := by decide +kernel
theorem dX10_count_55 : decode cX10_count 55 = .ok (.aload_n 0, 1) := by decide +kernel
theorem dX10_count_56 : decode cX10_count 56 = .ok (.iload 4, 2) := by decide +kernel
theorem dX10_count_58 : decode cX10_count 58 = .ok (.invokevirtual 224, 3) := by decide +kernel
theorem dX10_count_61 : decode cX10_count 61 = .ok (.ifCond .eq 15, 3) := by decide +kernel
theorem dX10_count_64 : decode cX10_count 64 = .ok (.aload_n 0, 1) := by decide +kernel
theorem dX10_count_65 : decode cX10_count 65 = .ok (.getfield 7, 3) := by decide +kernel
theorem dX10_count_68 : decode cX10_count 68 = .ok (.iconst 1, 1) := by decide +kernel
theorem dX10_count_69 : decode cX10_count 69 = .ok (.iload 4, 2) := by decide +kernel
theorem dX10_count_71 : decode cX10_count 71 = .ok (.iadd, 1) := by decide +kernel
theorem dX10_count_72 : decode cX10_count 72 = .ok (.iaload, 1) := by decide +kernel
theorem dX10_count_73 : decode cX10_count 73 = .ok (.goto 4, 3) := by decide +kernel
theorem dX10_count_76 : decode cX10_count 76 = .ok (.iconst 0, 1) := by decide +kernel
theorem dX10_count_77 : decode cX10_count 77 = .ok (.iadd, 1) := by decide +kernel
theorem dX10_count_78 : decode cX10_count 78 = .ok (.istore_n 3, 1) := by decide +kernel
theorem dX10_count_79 : decode cX10_count 79 = .ok (.iinc 4 1, 3) := by decide +kernel
theorem dX10_count_82 : decode cX10_count 82 = .ok (.goto (-37), 3) := by decide +kernel
theorem dX10_count_85 : decode cX10_count 85 = .ok (.iload_n 1, 1) := by decide +kernel
theorem dX10_count_86 : decode cX10_count 86 = .ok (.tableswitch 100 0 5 #[38, 48, 50, 70, 75, 98], 38) := by decide +kernel
theorem dX10_count_124 : decode cX10_count 124 = .ok (.aload_n 0, 1) := by decide +kernel
theorem dX10_count_125 : decode cX10_count 125 = .ok (.getfield 7, 3) := by decide +kernel
theorem dX10_count_128 : decode cX10_count 128 = .ok (.iconst 0, 1) := by decide +kernel
theorem dX10_count_129 : decode cX10_count 129 = .ok (.iaload, 1) := by decide +kernel
theorem dX10_count_130 : decode cX10_count 130 = .ok (.invokestatic 366, 3) := by decide +kernel
theorem dX10_count_133 : decode cX10_count 133 = .ok (.ireturn, 1) := by decide +kernel
theorem dX10_count_134 : decode cX10_count 134 = .ok (.iload_n 2, 1) := by decide +kernel
theorem dX10_count_135 : decode cX10_count 135 = .ok (.ireturn, 1) := by decide +kernel
theorem dX10_count_136 : decode cX10_count 136 = .ok (.aload_n 0, 1) := by decide +kernel
theorem dX10_count_137 : decode cX10_count 137 = .ok (.getfield 13, 3) := by decide +kernel
theorem dX10_count_140 : decode cX10_count 140 = .ok (.iconst 0, 1) := by decide +kernel
theorem dX10_count_141 : decode cX10_count 141 = .ok (.baload, 1) := by decide +kernel
theorem dX10_count_142 : decode cX10_count 142 = .ok (.invokestatic 209, 3) := by decide +kernel
theorem dX10_count_145 : decode cX10_count 145 = .ok (.aload_n 0, 1) := by decide +kernel
theorem dX10_count_146 : decode cX10_count 146 = .ok (.getfield 13, 3) := by decide +kernel
theorem dX10_count_149 : decode cX10_count 149 = .ok (.iconst 1, 1) := by decide +kernel
theorem dX10_count_150 : decode cX10_count 150 = .ok (.baload, 1) := by decide +kernel
theorem dX10_count_151 : decode cX10_count 151 = .ok (.invokestatic 209, 3) := by decide +kernel
theorem dX10_count_154 : decode cX10_count 154 = .ok (.iadd, 1) := by decide +kernel
theorem dX10_count_155 : decode cX10_count 155 = .ok (.ireturn, 1) := by decide +kernel
theorem dX10_count_156 : decode cX10_count 156 = .ok (.aload_n 0, 1) := by decide +kernel
theorem dX10_count_157 : decode cX10_count 157 = .ok (.getfield 129, 3) := by decide +kernel
theorem dX10_count_160 : decode cX10_count 160 = .ok (.ireturn, 1) := by decide +kernel
theorem dX10_count_161 : decode cX10_count 161 = .ok (.aload_n 0, 1) := by decide +kernel
theorem dX10_count_162 : decode cX10_count 162 = .ok (.getfield 68, 3) := by decide +kernel
theorem dX10_count_165 : decode cX10_count 165 = .ok (.iconst 0, 1) := by decide +kernel
theorem dX10_count_166 : decode cX10_count 166 = .ok (.iaload, 1) := by decide +kernel
theorem dX10_count_167 : decode cX10_count 167 = .ok (.bipush (-4), 2) := by decide +kernel
theorem dX10_count_169 : decode cX10_count 169 = .ok (.if_icmp .ne 8, 3) := by decide +kernel
theorem dX10_count_172 : decode cX10_count 172 = .ok (.bipush (-4), 2) := by decide +kernel
theorem dX10_count_174 : decode cX10_count 174 = .ok (.goto 9, 3) := by decide +kernel
theorem dX10_count_177 : decode cX10_count 177 = .ok (.aload_n 0, 1) := by decide +kernel
theorem dX10_count_178 : decode cX10_count 178 = .ok (.getfield 71, 3) := by decide +kernel
theorem dX10_count_181 : decode cX10_count 181 = .ok (.iconst 0, 1) := by decide +kernel
theorem dX10_count_182 : decode cX10_count 182 = .ok (.iaload, 1) := by decide +kernel
theorem dX10_count_183 : decode cX10_count 183 = .ok (.ireturn, 1) := by decide +kernel
theorem dX10_count_184 : decode cX10_count 184 = .ok (.iload_n 3, 1) := by decide +kernel
theorem dX10_count_185 : decode cX10_count 185 = .ok (.ireturn, 1) := by decide +kernel
theorem dX10_count_186 : decode cX10_count 186 = .ok (.iconst (-1), 1) := by decide +kernel
theorem dX10_count_187 : decode cX10_count 187 = .ok (.ireturn, 1) := by decide +kernel
end
section
theorem dL_law_0 : decode cL_law 0 = .ok (.new 7, 3) := by decide +kernel
theorem dL_law_3 : decode cL_law 3 = .ok (.dup, 1) := by decide +kernel
theorem dL_law_4 : decode cL_law 4 = .ok (.invokespecial 9, 3) := by decide +kernel
theorem dL_law_7 : decode cL_law 7 = .ok (.astore_n 1, 1) := by decide +kernel
theorem dL_law_8 : decode cL_law 8 = .ok (.new 10, 3) := by decide +kernel
theorem dL_law_11 : decode cL_law 11 = .ok (.dup, 1) := by decide +kernel
theorem dL_law_12 : decode cL_law 12 = .ok (.invokespecial 12, 3) := by decide +kernel
theorem dL_law_15 : decode cL_law 15 = .ok (.astore_n 2, 1) := by decide +kernel
theorem dL_law_16 : decode cL_law 16 = .ok (.iconst 0, 1) := by decide +kernel
theorem dL_law_17 : decode cL_law 17 = .ok (.istore_n 3, 1) := by decide +kernel
theorem dL_law_18 : decode cL_law 18 = .ok (.iload_n 3, 1) := by decide +kernel
theorem dL_law_19 : decode cL_law 19 = .ok (.aload_n 0, 1) := by decide +kernel
theorem dL_law_20 : decode cL_law 20 = .ok (.arraylength, 1) := by decide +kernel
theorem dL_law_21 : decode cL_law 21 = .ok (.iconst 5, 1) := by decide +kernel
theorem dL_law_22 : decode cL_law 22 = .ok (.isub, 1) := by decide +kernel
theorem dL_law_23 : decode cL_law 23 = .ok (.if_icmp .gt 1164, 3) := by decide +kernel
theorem dL_law_26 : decode cL_law 26 = .ok (.aload_n 0, 1) := by decide +kernel
theorem dL_law_27 : decode cL_law 27 = .ok (.iload_n 3, 1) := by decide +kernel
theorem dL_law_28 : decode cL_law 28 = .ok (.iaload, 1) := by decide +kernel
theorem dL_law_29 : decode cL_law 29 = .ok (.bipush 63, 2) := by decide +kernel
theorem dL_law_31 : decode cL_law 31 = .ok (.iand, 1) := by decide +kernel
theorem dL_law_32 : decode cL_law 32 = .ok (.tableswitch 1149 0 34 #[156, 209, 232, 245, 258, 281, 314, 337, 360, 373, 396, 419, 452, 501, 524, 547, 570, 603, 626, 669, 712, 735, 758, 781, 805, 829, 862, 895, 928, 951, 974, 1017, 1060, 1113, 1126], 156) := by decide +kernel
theorem dL_law_188 : decode cL_law 188 = .ok (.aload_n 1, 1) := by decide +kernel
theorem dL_law_189 : decode cL_law 189 = .ok (.aload_n 0, 1) := by decide +kernel
theorem dL_law_190 : decode cL_law 190 = .ok (.iload_n 3, 1) := by decide +kernel
theorem dL_law_191 : decode cL_law 191 = .ok (.iconst 1, 1) := by decide +kernel
theorem dL_law_192 : decode cL_law 192 = .ok (.iadd, 1) := by decide +kernel
theorem dL_law_193 : decode cL_law 193 = .ok (.iaload, 1) := by decide +kernel
theorem dL_law_194 : decode cL_law 194 = .ok (.i2l, 1) := by decide +kernel
theorem dL_law_195 : decode cL_law 195 = .ok (.bipush 32, 2) := by decide +kernel
theorem dL_law_197 : decode cL_law 197 = .ok (.lshl, 1) := by decide +kernel
theorem dL_law_198 : decode cL_law 198 = .ok (.aload_n 0, 1) := by decide +kernel
theorem dL_law_199 : decode cL_law 199 = .ok (.iload_n 3, 1) := by decide +kernel
theorem dL_law_200 : decode cL_law 200 = .ok (.iconst 2, 1) := by decide +kernel
theorem dL_law_201 : decode cL_law 201 = .ok (.iadd, 1) := by decide +kernel
theorem dL_law_202 : decode cL_law 202 = .ok (.iaload, 1) := by decide +kernel
theorem dL_law_203 : decode cL_law 203 = .ok (.i2l, 1) := by decide +kernel
theorem dL_law_204 : decode cL_law 204 = .ok (.ldc2_w 13, 3) := by decide +kernel
theorem dL_law_207 : decode cL_law 207 = .ok (.land, 1) := by decide +kernel
theorem dL_law_208 : decode cL_law 208 = .ok (.lor, 1) := by decide +kernel
theorem dL_law_209 : decode cL_law 209 = .ok (.invokevirtual 15, 3) := by decide +kernel
theorem dL_law_212 : decode cL_law 212 = .ok (.aload_n 2, 1) := by decide +kernel
theorem dL_law_213 : decode cL_law 213 = .ok (.aload_n 0, 1) := by decide +kernel
theorem dL_law_214 : decode cL_law 214 = .ok (.iload_n 3, 1) := by decide +kernel
theorem dL_law_215 : decode cL_law 215 = .ok (.iconst 1, 1) := by decide +kernel
theorem dL_law_216 : decode cL_law 216 = .ok (.iadd, 1) := by decide +kernel
theorem dL_law_217 : decode cL_law 217 = .ok (.iaload, 1) := by decide +kernel
theorem dL_law_218 : decode cL_law 218 = .ok (.i2l, 1) := by decide +kernel
theorem dL_law_219 : decode cL_law 219 = .ok (.bipush 32, 2) := by decide +kernel
theorem dL_law_221 : decode cL_law 221 = .ok (.lshl, 1) := by decide +kernel
theorem dL_law_222 : decode cL_law 222 = .ok (.aload_n 0, 1) := by decide +kernel
theorem dL_law_223 : decode cL_law 223 = .ok (.iload_n 3, 1) := by decide +kernel
theorem dL_law_224 : decode cL_law 224 = .ok (.iconst 2, 1) := by decide +kernel
theorem dL_law_225 : decode cL_law 225 = .ok (.iadd, 1) := by decide +kernel
theorem dL_law_226 : decode cL_law 226 = .ok (.iaload, 1) := by decide +kernel
theorem dL_law_227 : decode cL_law 227 = .ok (.i2l, 1) := by decide +kernel
theorem dL_law_228 : decode cL_law 228 = .ok (.ldc2_w 13, 3) := by decide +kernel
theorem dL_law_231 : decode cL_law 231 = .ok (.land, 1) := by decide +kernel
theorem dL_law_232 : decode cL_law 232 = .ok (.lor, 1) := by decide +kernel
theorem dL_law_233 : decode cL_law 233 = .ok (.invokevirtual 19, 3) := by decide +kernel
theorem dL_law_236 : decode cL_law 236 = .ok (.if_icmp .eq 945, 3) := by decide +kernel
theorem dL_law_239 : decode cL_law 239 = .ok (.iconst 0, 1) := by decide +kernel
theorem dL_law_240 : decode cL_law 240 = .ok (.ireturn, 1) := by decide +kernel
theorem dL_law_241 : decode cL_law 241 = .ok (.aload_n 1, 1) := by decide +kernel
theorem dL_law_242 : decode cL_law 242 = .ok (.aload_n 0, 1) := by decide +kernel
theorem dL_law_243 : decode cL_law 243 = .ok (.iload_n 3, 1) := by decide +kernel
theorem dL_law_244 : decode cL_law 244 = .ok (.iconst 1, 1) := by decide +kernel
theorem dL_law_245 : decode cL_law 245 = .ok (.iadd, 1) := by decide +kernel
theorem dL_law_246 : decode cL_law 246 = .ok (.iaload, 1) := by decide +kernel
theorem dL_law_247 : decode cL_law 247 = .ok (.invokevirtual 20, 3) := by decide +kernel
theorem dL_law_250 : decode cL_law 250 = .ok (.aload_n 2, 1) := by decide +kernel
theorem dL_law_251 : decode cL_law 251 = .ok (.aload_n 0, 1) := by decide +kernel
theorem dL_law_252 : decode cL_law 252 = .ok (.iload_n 3, 1) := by decide +kernel
theorem dL_law_253 : decode cL_law 253 = .ok (.iconst 1, 1) := by decide +kernel
theorem dL_law_254 : decode cL_law 254 = .ok (.iadd, 1) := by decide +kernel
theorem dL_law_255 : decode cL_law 255 = .ok (.iaload, 1) := by decide +kernel
theorem dL_law_256 : decode cL_law 256 = .ok (.invokevirtual 24, 3) := by decide +kernel
theorem dL_law_259 : decode cL_law 259 = .ok (.if_icmp .eq 922, 3) := by decide +kernel
theorem dL_law_262 : decode cL_law 262 = .ok (.iconst 0, 1) := by decide +kernel
theorem dL_law_263 : decode cL_law 263 = .ok (.ireturn, 1) := by decide +kernel
theorem dL_law_264 : decode cL_law 264 = .ok (.aload_n 1, 1) := by decide +kernel
theorem dL_law_265 : decode cL_law 265 = .ok (.invokevirtual 25, 3) := by decide +kernel
theorem dL_law_268 : decode cL_law 268 = .ok (.aload_n 2, 1) := by decide +kernel
theorem dL_law_269 : decode cL_law 269 = .ok (.invokevirtual 29, 3) := by decide +kernel
theorem dL_law_272 : decode cL_law 272 = .ok (.if_icmp .eq 909, 3) := by decide +kernel
theorem dL_law_275 : decode cL_law 275 = .ok (.iconst 0, 1) := by decide +kernel
theorem dL_law_276 : decode cL_law 276 = .ok (.ireturn, 1) := by decide +kernel
theorem dL_law_277 : decode cL_law 277 = .ok (.aload_n 1, 1) := by decide +kernel
theorem dL_law_278 : decode cL_law 278 = .ok (.invokevirtual 30, 3) := by decide +kernel
theorem dL_law_281 : decode cL_law 281 = .ok (.aload_n 2, 1) := by decide +kernel
theorem dL_law_282 : decode cL_law 282 = .ok (.invokevirtual 33, 3) := by decide +kernel
theorem dL_law_285 : decode cL_law 285 = .ok (.if_icmp .eq 896, 3) := by decide +kernel
theorem dL_law_288 : decode cL_law 288 = .ok (.iconst 0, 1) := by decide +kernel
theorem dL_law_289 : decode cL_law 289 = .ok (.ireturn, 1) := by decide +kernel
theorem dL_law_290 : decode cL_law 290 = .ok (.aload_n 1, 1) := by decide +kernel
theorem dL_law_291 : decode cL_law 291 = .ok (.aload_n 0, 1) := by decide +kernel
theorem dL_law_292 : decode cL_law 292 = .ok (.iload_n 3, 1) := by decide +kernel
theorem dL_law_293 : decode cL_law 293 = .ok (.iconst 1, 1) := by decide +kernel
theorem dL_law_294 : decode cL_law 294 = .ok (.iadd, 1) := by decide +kernel
theorem dL_law_295 : decode cL_law 295 = .ok (.iaload, 1) := by decide +kernel
theorem dL_law_296 : decode cL_law 296 = .ok (.invokevirtual 34, 3) := by decide +kernel
theorem dL_law_299 : decode cL_law 299 = .ok (.aload_n 2, 1) := by decide +kernel
theorem dL_law_300 : decode cL_law 300 = .ok (.aload_n 0, 1) := by decide +kernel
theorem dL_law_301 : decode cL_law 301 = .ok (.iload_n 3, 1) := by decide +kernel
theorem dL_law_302 : decode cL_law 302 = .ok (.iconst 1, 1) := by decide +kernel
theorem dL_law_303 : decode cL_law 303 = .ok (.iadd, 1) := by decide +kernel
theorem dL_law_304 : decode cL_law 304 = .ok (.iaload, 1) := by decide +kernel
theorem dL_law_305 : decode cL_law 305 = .ok (.invokevirtual 37, 3) := by decide +kernel
theorem dL_law_308 : decode cL_law 308 = .ok (.if_icmp .eq 873, 3) := by decide +kernel
theorem dL_law_311 : decode cL_law 311 = .ok (.iconst 0, 1) := by decide +kernel
theorem dL_law_312 : decode cL_law 312 = .ok (.ireturn, 1) := by decide +kernel
theorem dL_law_313 : decode cL_law 313 = .ok (.aload_n 1, 1) := by decide +kernel
theorem dL_law_314 : decode cL_law 314 = .ok (.aload_n 0, 1) := by decide +kernel
theorem dL_law_315 : decode cL_law 315 = .ok (.iload_n 3, 1) := by decide +kernel
theorem dL_law_316 : decode cL_law 316 = .ok (.iconst 1, 1) := by decide +kernel
theorem dL_law_317 : decode cL_law 317 = .ok (.iadd, 1) := by decide +kernel
theorem dL_law_318 : decode cL_law 318 = .ok (.iaload, 1) := by decide +kernel
theorem dL_law_319 : decode cL_law 319 = .ok (.aload_n 0, 1) := by decide +kernel
theorem dL_law_320 : decode cL_law 320 = .ok (.iload_n 3, 1) := by decide +kernel
theorem dL_law_321 : decode cL_law 321 = .ok (.iconst 2, 1) := by decide +kernel
theorem dL_law_322 : decode cL_law 322 = .ok (.iadd, 1) := by decide +kernel
theorem dL_law_323 : decode cL_law 323 = .ok (.iaload, 1) := by decide +kernel
theorem dL_law_324 : decode cL_law 324 = .ok (.invokevirtual 38, 3) := by decide +kernel
theorem dL_law_327 : decode cL_law 327 = .ok (.aload_n 2, 1) := by decide +kernel
theorem dL_law_328 : decode cL_law 328 = .ok (.aload_n 0, 1) := by decide +kernel
theorem dL_law_329 : decode cL_law 329 = .ok (.iload_n 3, 1) := by decide +kernel
theorem dL_law_330 : decode cL_law 330 = .ok (.iconst 1, 1) := by decide +kernel
theorem dL_law_331 : decode cL_law 331 = .ok (.iadd, 1) := by decide +kernel
theorem dL_law_332 : decode cL_law 332 = .ok (.iaload, 1) := by decide +kernel
theorem dL_law_333 : decode cL_law 333 = .ok (.aload_n 0, 1) := by decide +kernel
theorem dL_law_334 : decode cL_law 334 = .ok (.iload_n 3, 1) := by decide +kernel
theorem dL_law_335 : decode cL_law 335 = .ok (.iconst 2, 1) := by decide +kernel
theorem dL_law_336 : decode cL_law 336 = .ok (.iadd, 1) := by decide +kernel
theorem dL_law_337 : decode cL_law 337 = .ok (.iaload, 1) := by decide +kernel
theorem dL_law_338 : decode cL_law 338 = .ok (.invokevirtual 42, 3) := by decide +kernel
theorem dL_law_341 : decode cL_law 341 = .ok (.if_icmp .eq 840, 3) := by decide +kernel
theorem dL_law_344 : decode cL_law 344 = .ok (.iconst 0, 1) := by decide +kernel
theorem dL_law_345 : decode cL_law 345 = .ok (.ireturn, 1) := by decide +kernel
theorem dL_law_346 : decode cL_law 346 = .ok (.aload_n 1, 1) := by decide +kernel
theorem dL_law_347 : decode cL_law 347 = .ok (.aload_n 0, 1) := by decide +kernel
theorem dL_law_348 : decode cL_law 348 = .ok (.iload_n 3, 1) := by decide +kernel
theorem dL_law_349 : decode cL_law 349 = .ok (.iconst 1, 1) := by decide +kernel
theorem dL_law_350 : decode cL_law 350 = .ok (.iadd, 1) := by decide +kernel
theorem dL_law_351 : decode cL_law 351 = .ok (.iaload, 1) := by decide +kernel
theorem dL_law_352 : decode cL_law 352 = .ok (.invokevirtual 43, 3) := by decide +kernel
theorem dL_law_355 : decode cL_law 355 = .ok (.aload_n 2, 1) := by decide +kernel
theorem dL_law_356 : decode cL_law 356 = .ok (.aload_n 0, 1) := by decide +kernel
theorem dL_law_357 : decode cL_law 357 = .ok (.iload_n 3, 1) := by decide +kernel
theorem dL_law_358 : decode cL_law 358 = .ok (.iconst 1, 1) := by decide +kernel
theorem dL_law_359 : decode cL_law 359 = .ok (.iadd, 1) := by decide +kernel
theorem dL_law_360 : decode cL_law 360 = .ok (.iaload, 1) := by decide +kernel
theorem dL_law_361 : decode cL_law 361 = .ok (.invokevirtual 46, 3) := by decide +kernel
theorem dL_law_364 : decode cL_law 364 = .ok (.if_icmp .eq 817, 3) := by decide +kernel
theorem dL_law_367 : decode cL_law 367 = .ok (.iconst 0, 1) := by decide +kernel
theorem dL_law_368 : decode cL_law 368 = .ok (.ireturn, 1) := by decide +kernel
theorem dL_law_369 : decode cL_law 369 = .ok (.aload_n 1, 1) := by decide +kernel
theorem dL_law_370 : decode cL_law 370 = .ok (.aload_n 0, 1) := by decide +kernel
theorem dL_law_371 : decode cL_law 371 = .ok (.iload_n 3, 1) := by decide +kernel
theorem dL_law_372 : decode cL_law 372 = .ok (.iconst 1, 1) := by decide +kernel
theorem dL_law_373 : decode cL_law 373 = .ok (.iadd, 1) := by decide +kernel
theorem dL_law_374 : decode cL_law 374 = .ok (.iaload, 1) := by decide +kernel
theorem dL_law_375 : decode cL_law 375 = .ok (.invokevirtual 47, 3) := by decide +kernel
theorem dL_law_378 : decode cL_law 378 = .ok (.aload_n 2, 1) := by decide +kernel
theorem dL_law_379 : decode cL_law 379 = .ok (.aload_n 0, 1) := by decide +kernel
theorem dL_law_380 : decode cL_law 380 = .ok (.iload_n 3, 1) := by decide +kernel
theorem dL_law_381 : decode cL_law 381 = .ok (.iconst 1, 1) := by decide +kernel
theorem dL_law_382 : decode cL_law 382 = .ok (.iadd, 1) := by decide +kernel
theorem dL_law_383 : decode cL_law 383 = .ok (.iaload, 1) := by decide +kernel
theorem dL_law_384 : decode cL_law 384 = .ok (.invokevirtual 50, 3) := by decide +kernel
theorem dL_law_387 : decode cL_law 387 = .ok (.if_icmp .eq 794, 3) := by decide +kernel
theorem dL_law_390 : decode cL_law 390 = .ok (.iconst 0, 1) := by decide +kernel
theorem dL_law_391 : decode cL_law 391 = .ok (.ireturn, 1) := by decide +kernel
theorem dL_law_392 : decode cL_law 392 = .ok (.aload_n 1, 1) := by decide +kernel
theorem dL_law_393 : decode cL_law 393 = .ok (.invokevirtual 51, 3) := by decide +kernel
theorem dL_law_396 : decode cL_law 396 = .ok (.aload_n 2, 1) := by decide +kernel
theorem dL_law_397 : decode cL_law 397 = .ok (.invokevirtual 54, 3) := by decide +kernel
theorem dL_law_400 : decode cL_law 400 = .ok (.if_icmp .eq 781, 3) := by decide +kernel
theorem dL_law_403 : decode cL_law 403 = .ok (.iconst 0, 1) := by decide +kernel
theorem dL_law_404 : decode cL_law 404 = .ok (.ireturn, 1) := by decide +kernel
theorem dL_law_405 : decode cL_law 405 = .ok (.aload_n 1, 1) := by decide +kernel
theorem dL_law_406 : decode cL_law 406 = .ok (.aload_n 0, 1) := by decide +kernel
theorem dL_law_407 : decode cL_law 407 = .ok (.iload_n 3, 1) := by decide +kernel
theorem dL_law_408 : decode cL_law 408 = .ok (.iconst 1, 1) := by decide +kernel
theorem dL_law_409 : decode cL_law 409 = .ok (.iadd, 1) := by decide +kernel
theorem dL_law_410 : decode cL_law 410 = .ok (.iaload, 1) := by decide +kernel
theorem dL_law_411 : decode cL_law 411 = .ok (.invokevirtual 55, 3) := by decide +kernel
theorem dL_law_414 : decode cL_law 414 = .ok (.aload_n 2, 1) := by decide +kernel
theorem dL_law_415 : decode cL_law 415 = .ok (.aload_n 0, 1) := by decide +kernel
theorem dL_law_416 : decode cL_law 416 = .ok (.iload_n 3, 1) := by decide +kernel
theorem dL_law_417 : decode cL_law 417 = .ok (.iconst 1, 1) := by decide +kernel
theorem dL_law_418 : decode cL_law 418 = .ok (.iadd, 1) := by decide +kernel
theorem dL_law_419 : decode cL_law 419 = .ok (.iaload, 1) := by decide +kernel
theorem dL_law_420 : decode cL_law 420 = .ok (.invokevirtual 58, 3) := by decide +kernel
theorem dL_law_423 : decode cL_law 423 = .ok (.if_icmp .eq 758, 3) := by decide +kernel
theorem dL_law_426 : decode cL_law 426 = .ok (.iconst 0, 1) := by decide +kernel
theorem dL_law_427 : decode cL_law 427 = .ok (.ireturn, 1) := by decide +kernel
theorem dL_law_428 : decode cL_law 428 = .ok (.aload_n 1, 1) := by decide +kernel
theorem dL_law_429 : decode cL_law 429 = .ok (.aload_n 0, 1) := by decide +kernel
theorem dL_law_430 : decode cL_law 430 = .ok (.iload_n 3, 1) := by decide +kernel
theorem dL_law_431 : decode cL_law 431 = .ok (.iconst 1, 1) := by decide +kernel
theorem dL_law_432 : decode cL_law 432 = .ok (.iadd, 1) := by decide +kernel
theorem dL_law_433 : decode cL_law 433 = .ok (.iaload, 1) := by decide +kernel
theorem dL_law_434 : decode cL_law 434 = .ok (.invokevirtual 59, 3) := by decide +kernel
theorem dL_law_437 : decode cL_law 437 = .ok (.aload_n 2, 1) := by decide +kernel
theorem dL_law_438 : decode cL_law 438 = .ok (.aload_n 0, 1) := by decide +kernel
theorem dL_law_439 : decode cL_law 439 = .ok (.iload_n 3, 1) := by decide +kernel
theorem dL_law_440 : decode cL_law 440 = .ok (.iconst 1, 1) := by decide +kernel
theorem dL_law_441 : decode cL_law 441 = .ok (.iadd, 1) := by decide +kernel
theorem dL_law_442 : decode cL_law 442 = .ok (.iaload, 1) := by decide +kernel
theorem dL_law_443 : decode cL_law 443 = .ok (.invokevirtual 62, 3) := by decide +kernel
theorem dL_law_446 : decode cL_law 446 = .ok (.if_icmp .eq 735, 3) := by decide +kernel
theorem dL_law_449 : decode cL_law 449 = .ok (.iconst 0, 1) := by decide +kernel
theorem dL_law_450 : decode cL_law 450 = .ok (.ireturn, 1) := by decide +kernel
theorem dL_law_451 : decode cL_law 451 = .ok (.aload_n 1, 1) := by decide +kernel
theorem dL_law_452 : decode cL_law 452 = .ok (.aload_n 0, 1) := by decide +kernel
theorem dL_law_453 : decode cL_law 453 = .ok (.iload_n 3, 1) := by decide +kernel
theorem dL_law_454 : decode cL_law 454 = .ok (.iconst 1, 1) := by decide +kernel
theorem dL_law_455 : decode cL_law 455 = .ok (.iadd, 1) := by decide +kernel
theorem dL_law_456 : decode cL_law 456 = .ok (.iaload, 1) := by decide +kernel
theorem dL_law_457 : decode cL_law 457 = .ok (.aload_n 0, 1) := by decide +kernel
theorem dL_law_458 : decode cL_law 458 = .ok (.iload_n 3, 1) := by decide +kernel
theorem dL_law_459 : decode cL_law 459 = .ok (.iconst 2, 1) := by decide +kernel
theorem dL_law_460 : decode cL_law 460 = .ok (.iadd, 1) := by decide +kernel
theorem dL_law_461 : decode cL_law 461 = .ok (.iaload, 1) := by decide +kernel
theorem dL_law_462 : decode cL_law 462 = .ok (.invokevirtual 63, 3) := by decide +kernel
theorem dL_law_465 : decode cL_law 465 = .ok (.aload_n 2, 1) := by decide +kernel
theorem dL_law_466 : decode cL_law 466 = .ok (.aload_n 0, 1) := by decide +kernel
theorem dL_law_467 : decode cL_law 467 = .ok (.iload_n 3, 1) := by decide +kernel
theorem dL_law_468 : decode cL_law 468 = .ok (.iconst 1, 1) := by decide +kernel
theorem dL_law_469 : decode cL_law 469 = .ok (.iadd, 1) := by decide +kernel
theorem dL_law_470 : decode cL_law 470 = .ok (.iaload, 1) := by decide +kernel
theorem dL_law_471 : decode cL_law 471 = .ok (.aload_n 0, 1) := by decide +kernel
theorem dL_law_472 : decode cL_law 472 = .ok (.iload_n 3, 1) := by decide +kernel
theorem dL_law_473 : decode cL_law 473 = .ok (.iconst 2, 1) := by decide +kernel
theorem dL_law_474 : decode cL_law 474 = .ok (.iadd, 1) := by decide +kernel
theorem dL_law_475 : decode cL_law 475 = .ok (.iaload, 1) := by decide +kernel
theorem dL_law_476 : decode cL_law 476 = .ok (.invokevirtual 66, 3) := by decide +kernel
theorem dL_law_479 : decode cL_law 479 = .ok (.if_icmp .eq 702, 3) := by decide +kernel
theorem dL_law_482 : decode cL_law 482 = .ok (.iconst 0, 1) := by decide +kernel
theorem dL_law_483 : decode cL_law 483 = .ok (.ireturn, 1) := by decide +kernel
theorem dL_law_484 : decode cL_law 484 = .ok (.aload_n 1, 1) := by decide +kernel
theorem dL_law_485 : decode cL_law 485 = .ok (.aload_n 0, 1) := by decide +kernel
theorem dL_law_486 : decode cL_law 486 = .ok (.iload_n 3, 1) := by decide +kernel
theorem dL_law_487 : decode cL_law 487 = .ok (.iconst 1, 1) := by decide +kernel
theorem dL_law_488 : decode cL_law 488 = .ok (.iadd, 1) := by decide +kernel
theorem dL_law_489 : decode cL_law 489 = .ok (.iaload, 1) := by decide +kernel
theorem dL_law_490 : decode cL_law 490 = .ok (.aload_n 0, 1) := by decide +kernel
theorem dL_law_491 : decode cL_law 491 = .ok (.iload_n 3, 1) := by decide +kernel
theorem dL_law_492 : decode cL_law 492 = .ok (.iconst 2, 1) := by decide +kernel
theorem dL_law_493 : decode cL_law 493 = .ok (.iadd, 1) := by decide +kernel
theorem dL_law_494 : decode cL_law 494 = .ok (.iaload, 1) := by decide +kernel
theorem dL_law_495 : decode cL_law 495 = .ok (.ifCond .eq 7, 3) := by decide +kernel
theorem dL_law_498 : decode cL_law 498 = .ok (.iconst 1, 1) := by decide +kernel
theorem dL_law_499 : decode cL_law 499 = .ok (.goto 4, 3) := by decide +kernel
theorem dL_law_502 : decode cL_law 502 = .ok (.iconst 0, 1) := by decide +kernel
theorem dL_law_503 : decode cL_law 503 = .ok (.invokevirtual 67, 3) := by decide +kernel
theorem dL_law_506 : decode cL_law 506 = .ok (.aload_n 2, 1) := by decide +kernel
theorem dL_law_507 : decode cL_law 507 = .ok (.aload_n 0, 1) := by decide +kernel
theorem dL_law_508 : decode cL_law 508 = .ok (.iload_n 3, 1) := by decide +kernel
theorem dL_law_509 : decode cL_law 509 = .ok (.iconst 1, 1) := by decide +kernel
theorem dL_law_510 : decode cL_law 510 = .ok (.iadd, 1) := by decide +kernel
theorem dL_law_511 : decode cL_law 511 = .ok (.iaload, 1) := by decide +kernel
theorem dL_law_512 : decode cL_law 512 = .ok (.aload_n 0, 1) := by decide +kernel
theorem dL_law_513 : decode cL_law 513 = .ok (.iload_n 3, 1) := by decide +kernel
theorem dL_law_514 : decode cL_law 514 = .ok (.iconst 2, 1) := by decide +kernel
theorem dL_law_515 : decode cL_law 515 = .ok (.iadd, 1) := by decide +kernel
theorem dL_law_516 : decode cL_law 516 = .ok (.iaload, 1) := by decide +kernel
theorem dL_law_517 : decode cL_law 517 = .ok (.ifCond .eq 7, 3) := by decide +kernel
theorem dL_law_520 : decode cL_law 520 = .ok (.iconst 1, 1) := by decide +kernel
theorem dL_law_521 : decode cL_law 521 = .ok (.goto 4, 3) := by decide +kernel
theorem dL_law_524 : decode cL_law 524 = .ok (.iconst 0, 1) := by decide +kernel
theorem dL_law_525 : decode cL_law 525 = .ok (.invokevirtual 71, 3) := by decide +kernel
theorem dL_law_528 : decode cL_law 528 = .ok (.if_icmp .eq 653, 3) := by decide +kernel
theorem dL_law_531 : decode cL_law 531 = .ok (.iconst 0, 1) := by decide +kernel
theorem dL_law_532 : decode cL_law 532 = .ok (.ireturn, 1) := by decide +kernel
theorem dL_law_533 : decode cL_law 533 = .ok (.aload_n 1, 1) := by decide +kernel
theorem dL_law_534 : decode cL_law 534 = .ok (.aload_n 0, 1) := by decide +kernel
theorem dL_law_535 : decode cL_law 535 = .ok (.iload_n 3, 1) := by decide +kernel
theorem dL_law_536 : decode cL_law 536 = .ok (.iconst 1, 1) := by decide +kernel
theorem dL_law_537 : decode cL_law 537 = .ok (.iadd, 1) := by decide +kernel
theorem dL_law_538 : decode cL_law 538 = .ok (.iaload, 1) := by decide +kernel
theorem dL_law_539 : decode cL_law 539 = .ok (.invokevirtual 72, 3) := by decide +kernel
theorem dL_law_542 : decode cL_law 542 = .ok (.aload_n 2, 1) := by decide +kernel
theorem dL_law_543 : decode cL_law 543 = .ok (.aload_n 0, 1) := by decide +kernel
theorem dL_law_544 : decode cL_law 544 = .ok (.iload_n 3, 1) := by decide +kernel
theorem dL_law_545 : decode cL_law 545 = .ok (.iconst 1, 1) := by decide +kernel
theorem dL_law_546 : decode cL_law 546 = .ok (.iadd, 1) := by decide +kernel
theorem dL_law_547 : decode cL_law 547 = .ok (.iaload, 1) := by decide +kernel
theorem dL_law_548 : decode cL_law 548 = .ok (.invokevirtual 75, 3) := by decide +kernel
theorem dL_law_551 : decode cL_law 551 = .ok (.if_icmp .eq 630, 3) := by decide +kernel
theorem dL_law_554 : decode cL_law 554 = .ok (.iconst 0, 1) := by decide +kernel
theorem dL_law_555 : decode cL_law 555 = .ok (.ireturn, 1) := by decide +kernel
theorem dL_law_556 : decode cL_law 556 = .ok (.aload_n 1, 1) := by decide +kernel
theorem dL_law_557 : decode cL_law 557 = .ok (.aload_n 0, 1) := by decide +kernel
theorem dL_law_558 : decode cL_law 558 = .ok (.iload_n 3, 1) := by decide +kernel
theorem dL_law_559 : decode cL_law 559 = .ok (.iconst 1, 1) := by decide +kernel
theorem dL_law_560 : decode cL_law 560 = .ok (.iadd, 1) := by decide +kernel
theorem dL_law_561 : decode cL_law 561 = .ok (.iaload, 1) := by decide +kernel
theorem dL_law_562 : decode cL_law 562 = .ok (.invokevirtual 76, 3) := by decide +kernel
theorem dL_law_565 : decode cL_law 565 = .ok (.aload_n 2, 1) := by decide +kernel
theorem dL_law_566 : decode cL_law 566 = .ok (.aload_n 0, 1) := by decide +kernel
theorem dL_law_567 : decode cL_law 567 = .ok (.iload_n 3, 1) := by decide +kernel
theorem dL_law_568 : decode cL_law 568 = .ok (.iconst 1, 1) := by decide +kernel
theorem dL_law_569 : decode cL_law 569 = .ok (.iadd, 1) := by decide +kernel
theorem dL_law_570 : decode cL_law 570 = .ok (.iaload, 1) := by decide +kernel
theorem dL_law_571 : decode cL_law 571 = .ok (.invokevirtual 79, 3) := by decide +kernel
theorem dL_law_574 : decode cL_law 574 = .ok (.if_icmp .eq 607, 3) := by decide +kernel
theorem dL_law_577 : decode cL_law 577 = .ok (.iconst 0, 1) := by decide +kernel
theorem dL_law_578 : decode cL_law 578 = .ok (.ireturn, 1) := by decide +kernel
theorem dL_law_579 : decode cL_law 579 = .ok (.aload_n 1, 1) := by decide +kernel
theorem dL_law_580 : decode cL_law 580 = .ok (.aload_n 0, 1) := by decide +kernel
theorem dL_law_581 : decode cL_law 581 = .ok (.iload_n 3, 1) := by decide +kernel
theorem dL_law_582 : decode cL_law 582 = .ok (.iconst 1, 1) := by decide +kernel
theorem dL_law_583 : decode cL_law 583 = .ok (.iadd, 1) := by decide +kernel
theorem dL_law_584 : decode cL_law 584 = .ok (.iaload, 1) := by decide +kernel
theorem dL_law_585 : decode cL_law 585 = .ok (.invokevirtual 80, 3) := by decide +kernel
theorem dL_law_588 : decode cL_law 588 = .ok (.aload_n 2, 1) := by decide +kernel
theorem dL_law_589 : decode cL_law 589 = .ok (.aload_n 0, 1) := by decide +kernel
theorem dL_law_590 : decode cL_law 590 = .ok (.iload_n 3, 1) := by decide +kernel
theorem dL_law_591 : decode cL_law 591 = .ok (.iconst 1, 1) := by decide +kernel
theorem dL_law_592 : decode cL_law 592 = .ok (.iadd, 1) := by decide +kernel
theorem dL_law_593 : decode cL_law 593 = .ok (.iaload, 1) := by decide +kernel
theorem dL_law_594 : decode cL_law 594 = .ok (.invokevirtual 83, 3) := by decide +kernel
theorem dL_law_597 : decode cL_law 597 = .ok (.if_icmp .eq 584, 3) := by decide +kernel
theorem dL_law_600 : decode cL_law 600 = .ok (.iconst 0, 1) := by decide +kernel
theorem dL_law_601 : decode cL_law 601 = .ok (.ireturn, 1) := by decide +kernel
theorem dL_law_602 : decode cL_law 602 = .ok (.aload_n 1, 1) := by decide +kernel
theorem dL_law_603 : decode cL_law 603 = .ok (.aload_n 0, 1) := by decide +kernel
theorem dL_law_604 : decode cL_law 604 = .ok (.iload_n 3, 1) := by decide +kernel
theorem dL_law_605 : decode cL_law 605 = .ok (.iconst 1, 1) := by decide +kernel
theorem dL_law_606 : decode cL_law 606 = .ok (.iadd, 1) := by decide +kernel
theorem dL_law_607 : decode cL_law 607 = .ok (.iaload, 1) := by decide +kernel
theorem dL_law_608 : decode cL_law 608 = .ok (.aload_n 0, 1) := by decide +kernel
theorem dL_law_609 : decode cL_law 609 = .ok (.iload_n 3, 1) := by decide +kernel
theorem dL_law_610 : decode cL_law 610 = .ok (.iconst 2, 1) := by decide +kernel
theorem dL_law_611 : decode cL_law 611 = .ok (.iadd, 1) := by decide +kernel
theorem dL_law_612 : decode cL_law 612 = .ok (.iaload, 1) := by decide +kernel
theorem dL_law_613 : decode cL_law 613 = .ok (.invokevirtual 84, 3) := by decide +kernel
theorem dL_law_616 : decode cL_law 616 = .ok (.aload_n 2, 1) := by decide +kernel
theorem dL_law_617 : decode cL_law 617 = .ok (.aload_n 0, 1) := by decide +kernel
theorem dL_law_618 : decode cL_law 618 = .ok (.iload_n 3, 1) := by decide +kernel
theorem dL_law_619 : decode cL_law 619 = .ok (.iconst 1, 1) := by decide +kernel
theorem dL_law_620 : decode cL_law 620 = .ok (.iadd, 1) := by decide +kernel
theorem dL_law_621 : decode cL_law 621 = .ok (.iaload, 1) := by decide +kernel
theorem dL_law_622 : decode cL_law 622 = .ok (.aload_n 0, 1) := by decide +kernel
theorem dL_law_623 : decode cL_law 623 = .ok (.iload_n 3, 1) := by decide +kernel
theorem dL_law_624 : decode cL_law 624 = .ok (.iconst 2, 1) := by decide +kernel
theorem dL_law_625 : decode cL_law 625 = .ok (.iadd, 1) := by decide +kernel
theorem dL_law_626 : decode cL_law 626 = .ok (.iaload, 1) := by decide +kernel
theorem dL_law_627 : decode cL_law 627 = .ok (.invokevirtual 87, 3) := by decide +kernel
theorem dL_law_630 : decode cL_law 630 = .ok (.if_icmp .eq 551, 3) := by decide +kernel
theorem dL_law_633 : decode cL_law 633 = .ok (.iconst 0, 1) := by decide +kernel
theorem dL_law_634 : decode cL_law 634 = .ok (.ireturn, 1) := by decide +kernel
theorem dL_law_635 : decode cL_law 635 = .ok (.aload_n 1, 1) := by decide +kernel
theorem dL_law_636 : decode cL_law 636 = .ok (.aload_n 0, 1) := by decide +kernel
theorem dL_law_637 : decode cL_law 637 = .ok (.iload_n 3, 1) := by decide +kernel
theorem dL_law_638 : decode cL_law 638 = .ok (.iconst 1, 1) := by decide +kernel
theorem dL_law_639 : decode cL_law 639 = .ok (.iadd, 1) := by decide +kernel
theorem dL_law_640 : decode cL_law 640 = .ok (.iaload, 1) := by decide +kernel
theorem dL_law_641 : decode cL_law 641 = .ok (.invokevirtual 88, 3) := by decide +kernel
theorem dL_law_644 : decode cL_law 644 = .ok (.aload_n 2, 1) := by decide +kernel
theorem dL_law_645 : decode cL_law 645 = .ok (.aload_n 0, 1) := by decide +kernel
theorem dL_law_646 : decode cL_law 646 = .ok (.iload_n 3, 1) := by decide +kernel
theorem dL_law_647 : decode cL_law 647 = .ok (.iconst 1, 1) := by decide +kernel
theorem dL_law_648 : decode cL_law 648 = .ok (.iadd, 1) := by decide +kernel
theorem dL_law_649 : decode cL_law 649 = .ok (.iaload, 1) := by decide +kernel
theorem dL_law_650 : decode cL_law 650 = .ok (.invokevirtual 91, 3) := by decide +kernel
theorem dL_law_653 : decode cL_law 653 = .ok (.if_icmp .eq 528, 3) := by decide +kernel
theorem dL_law_656 : decode cL_law 656 = .ok (.iconst 0, 1) := by decide +kernel
theorem dL_law_657 : decode cL_law 657 = .ok (.ireturn, 1) := by decide +kernel
theorem dL_law_658 : decode cL_law 658 = .ok (.aload_n 1, 1) := by decide +kernel
theorem dL_law_659 : decode cL_law 659 = .ok (.aload_n 0, 1) := by decide +kernel
theorem dL_law_660 : decode cL_law 660 = .ok (.iload_n 3, 1) := by decide +kernel
theorem dL_law_661 : decode cL_law 661 = .ok (.iconst 1, 1) := by decide +kernel
theorem dL_law_662 : decode cL_law 662 = .ok (.iadd, 1) := by decide +kernel
theorem dL_law_663 : decode cL_law 663 = .ok (.iaload, 1) := by decide +kernel
theorem dL_law_664 : decode cL_law 664 = .ok (.aload_n 0, 1) := by decide +kernel
theorem dL_law_665 : decode cL_law 665 = .ok (.iload_n 3, 1) := by decide +kernel
theorem dL_law_666 : decode cL_law 666 = .ok (.iconst 2, 1) := by decide +kernel
theorem dL_law_667 : decode cL_law 667 = .ok (.iadd, 1) := by decide +kernel
theorem dL_law_668 : decode cL_law 668 = .ok (.iaload, 1) := by decide +kernel
theorem dL_law_669 : decode cL_law 669 = .ok (.aload_n 0, 1) := by decide +kernel
theorem dL_law_670 : decode cL_law 670 = .ok (.iload_n 3, 1) := by decide +kernel
theorem dL_law_671 : decode cL_law 671 = .ok (.iconst 3, 1) := by decide +kernel
theorem dL_law_672 : decode cL_law 672 = .ok (.iadd, 1) := by decide +kernel
theorem dL_law_673 : decode cL_law 673 = .ok (.iaload, 1) := by decide +kernel
theorem dL_law_674 : decode cL_law 674 = .ok (.invokevirtual 92, 3) := by decide +kernel
theorem dL_law_677 : decode cL_law 677 = .ok (.aload_n 2, 1) := by decide +kernel
theorem dL_law_678 : decode cL_law 678 = .ok (.aload_n 0, 1) := by decide +kernel
theorem dL_law_679 : decode cL_law 679 = .ok (.iload_n 3, 1) := by decide +kernel
theorem dL_law_680 : decode cL_law 680 = .ok (.iconst 1, 1) := by decide +kernel
theorem dL_law_681 : decode cL_law 681 = .ok (.iadd, 1) := by decide +kernel
theorem dL_law_682 : decode cL_law 682 = .ok (.iaload, 1) := by decide +kernel
theorem dL_law_683 : decode cL_law 683 = .ok (.aload_n 0, 1) := by decide +kernel
theorem dL_law_684 : decode cL_law 684 = .ok (.iload_n 3, 1) := by decide +kernel
theorem dL_law_685 : decode cL_law 685 = .ok (.iconst 2, 1) := by decide +kernel
theorem dL_law_686 : decode cL_law 686 = .ok (.iadd, 1) := by decide +kernel
theorem dL_law_687 : decode cL_law 687 = .ok (.iaload, 1) := by decide +kernel
theorem dL_law_688 : decode cL_law 688 = .ok (.aload_n 0, 1) := by decide +kernel
theorem dL_law_689 : decode cL_law 689 = .ok (.iload_n 3, 1) := by decide +kernel
theorem dL_law_690 : decode cL_law 690 = .ok (.iconst 3, 1) := by decide +kernel
theorem dL_law_691 : decode cL_law 691 = .ok (.iadd, 1) := by decide +kernel
theorem dL_law_692 : decode cL_law 692 = .ok (.iaload, 1) := by decide +kernel
theorem dL_law_693 : decode cL_law 693 = .ok (.invokevirtual 96, 3) := by decide +kernel
theorem dL_law_696 : decode cL_law 696 = .ok (.if_icmp .eq 485, 3) := by decide +kernel
theorem dL_law_699 : decode cL_law 699 = .ok (.iconst 0, 1) := by decide +kernel
theorem dL_law_700 : decode cL_law 700 = .ok (.ireturn, 1) := by decide +kernel
theorem dL_law_701 : decode cL_law 701 = .ok (.aload_n 1, 1) := by decide +kernel
theorem dL_law_702 : decode cL_law 702 = .ok (.aload_n 0, 1) := by decide +kernel
theorem dL_law_703 : decode cL_law 703 = .ok (.iload_n 3, 1) := by decide +kernel
theorem dL_law_704 : decode cL_law 704 = .ok (.iconst 1, 1) := by decide +kernel
theorem dL_law_705 : decode cL_law 705 = .ok (.iadd, 1) := by decide +kernel
theorem dL_law_706 : decode cL_law 706 = .ok (.iaload, 1) := by decide +kernel
theorem dL_law_707 : decode cL_law 707 = .ok (.aload_n 0, 1) := by decide +kernel
theorem dL_law_708 : decode cL_law 708 = .ok (.iload_n 3, 1) := by decide +kernel
theorem dL_law_709 : decode cL_law 709 = .ok (.iconst 2, 1) := by decide +kernel
theorem dL_law_710 : decode cL_law 710 = .ok (.iadd, 1) := by decide +kernel
theorem dL_law_711 : decode cL_law 711 = .ok (.iaload, 1) := by decide +kernel
theorem dL_law_712 : decode cL_law 712 = .ok (.aload_n 0, 1) := by decide +kernel
theorem dL_law_713 : decode cL_law 713 = .ok (.iload_n 3, 1) := by decide +kernel
theorem dL_law_714 : decode cL_law 714 = .ok (.iconst 3, 1) := by decide +kernel
theorem dL_law_715 : decode cL_law 715 = .ok (.iadd, 1) := by decide +kernel
theorem dL_law_716 : decode cL_law 716 = .ok (.iaload, 1) := by decide +kernel
theorem dL_law_717 : decode cL_law 717 = .ok (.invokevirtual 97, 3) := by decide +kernel
theorem dL_law_720 : decode cL_law 720 = .ok (.aload_n 2, 1) := by decide +kernel
theorem dL_law_721 : decode cL_law 721 = .ok (.aload_n 0, 1) := by decide +kernel
theorem dL_law_722 : decode cL_law 722 = .ok (.iload_n 3, 1) := by decide +kernel
theorem dL_law_723 : decode cL_law 723 = .ok (.iconst 1, 1) := by decide +kernel
theorem dL_law_724 : decode cL_law 724 = .ok (.iadd, 1) := by decide +kernel
theorem dL_law_725 : decode cL_law 725 = .ok (.iaload, 1) := by decide +kernel
theorem dL_law_726 : decode cL_law 726 = .ok (.aload_n 0, 1) := by decide +kernel
theorem dL_law_727 : decode cL_law 727 = .ok (.iload_n 3, 1) := by decide +kernel
theorem dL_law_728 : decode cL_law 728 = .ok (.iconst 2, 1) := by decide +kernel
theorem dL_law_729 : decode cL_law 729 = .ok (.iadd, 1) := by decide +kernel
theorem dL_law_730 : decode cL_law 730 = .ok (.iaload, 1) := by decide +kernel
theorem dL_law_731 : decode cL_law 731 = .ok (.aload_n 0, 1) := by decide +kernel
theorem dL_law_732 : decode cL_law 732 = .ok (.iload_n 3, 1) := by decide +kernel
theorem dL_law_733 : decode cL_law 733 = .ok (.iconst 3, 1) := by decide +kernel
theorem dL_law_734 : decode cL_law 734 = .ok (.iadd, 1) := by decide +kernel
theorem dL_law_735 : decode cL_law 735 = .ok (.iaload, 1) := by decide +kernel
theorem dL_law_736 : decode cL_law 736 = .ok (.invokevirtual 100, 3) := by decide +kernel
theorem dL_law_739 : decode cL_law 739 = .ok (.if_icmp .eq 442, 3) := by decide +kernel
theorem dL_law_742 : decode cL_law 742 = .ok (.iconst 0, 1) := by decide +kernel
theorem dL_law_743 : decode cL_law 743 = .ok (.ireturn, 1) := by decide +kernel
theorem dL_law_744 : decode cL_law 744 = .ok (.aload_n 1, 1) := by decide +kernel
theorem dL_law_745 : decode cL_law 745 = .ok (.aload_n 0, 1) := by decide +kernel
theorem dL_law_746 : decode cL_law 746 = .ok (.iload_n 3, 1) := by decide +kernel
theorem dL_law_747 : decode cL_law 747 = .ok (.iconst 1, 1) := by decide +kernel
theorem dL_law_748 : decode cL_law 748 = .ok (.iadd, 1) := by decide +kernel
theorem dL_law_749 : decode cL_law 749 = .ok (.iaload, 1) := by decide +kernel
theorem dL_law_750 : decode cL_law 750 = .ok (.invokevirtual 101, 3) := by decide +kernel
theorem dL_law_753 : decode cL_law 753 = .ok (.aload_n 2, 1) := by decide +kernel
theorem dL_law_754 : decode cL_law 754 = .ok (.aload_n 0, 1) := by decide +kernel
theorem dL_law_755 : decode cL_law 755 = .ok (.iload_n 3, 1) := by decide +kernel
theorem dL_law_756 : decode cL_law 756 = .ok (.iconst 1, 1) := by decide +kernel
theorem dL_law_757 : decode cL_law 757 = .ok (.iadd, 1) := by decide +kernel
theorem dL_law_758 : decode cL_law 758 = .ok (.iaload, 1) := by decide +kernel
theorem dL_law_759 : decode cL_law 759 = .ok (.invokevirtual 104, 3) := by decide +kernel
theorem dL_law_762 : decode cL_law 762 = .ok (.if_icmp .eq 419, 3) := by decide +kernel
theorem dL_law_765 : decode cL_law 765 = .ok (.iconst 0, 1) := by decide +kernel
theorem dL_law_766 : decode cL_law 766 = .ok (.ireturn, 1) := by decide +kernel
theorem dL_law_767 : decode cL_law 767 = .ok (.aload_n 1, 1) := by decide +kernel
theorem dL_law_768 : decode cL_law 768 = .ok (.aload_n 0, 1) := by decide +kernel
theorem dL_law_769 : decode cL_law 769 = .ok (.iload_n 3, 1) := by decide +kernel
theorem dL_law_770 : decode cL_law 770 = .ok (.iconst 1, 1) := by decide +kernel
theorem dL_law_771 : decode cL_law 771 = .ok (.iadd, 1) := by decide +kernel
theorem dL_law_772 : decode cL_law 772 = .ok (.iaload, 1) := by decide +kernel
theorem dL_law_773 : decode cL_law 773 = .ok (.invokevirtual 105, 3) := by decide +kernel
theorem dL_law_776 : decode cL_law 776 = .ok (.aload_n 2, 1) := by decide +kernel
theorem dL_law_777 : decode cL_law 777 = .ok (.aload_n 0, 1) := by decide +kernel
theorem dL_law_778 : decode cL_law 778 = .ok (.iload_n 3, 1) := by decide +kernel
theorem dL_law_779 : decode cL_law 779 = .ok (.iconst 1, 1) := by decide +kernel
theorem dL_law_780 : decode cL_law 780 = .ok (.iadd, 1) := by decide +kernel
theorem dL_law_781 : decode cL_law 781 = .ok (.iaload, 1) := by decide +kernel
theorem dL_law_782 : decode cL_law 782 = .ok (.invokevirtual 108, 3) := by decide +kernel
theorem dL_law_785 : decode cL_law 785 = .ok (.if_icmp .eq 396, 3) := by decide +kernel
theorem dL_law_788 : decode cL_law 788 = .ok (.iconst 0, 1) := by decide +kernel
theorem dL_law_789 : decode cL_law 789 = .ok (.ireturn, 1) := by decide +kernel
theorem dL_law_790 : decode cL_law 790 = .ok (.aload_n 1, 1) := by decide +kernel
theorem dL_law_791 : decode cL_law 791 = .ok (.aload_n 0, 1) := by decide +kernel
theorem dL_law_792 : decode cL_law 792 = .ok (.iload_n 3, 1) := by decide +kernel
theorem dL_law_793 : decode cL_law 793 = .ok (.iconst 1, 1) := by decide +kernel
theorem dL_law_794 : decode cL_law 794 = .ok (.iadd, 1) := by decide +kernel
theorem dL_law_795 : decode cL_law 795 = .ok (.iaload, 1) := by decide +kernel
theorem dL_law_796 : decode cL_law 796 = .ok (.invokevirtual 109, 3) := by decide +kernel
theorem dL_law_799 : decode cL_law 799 = .ok (.aload_n 2, 1) := by decide +kernel
theorem dL_law_800 : decode cL_law 800 = .ok (.aload_n 0, 1) := by decide +kernel
theorem dL_law_801 : decode cL_law 801 = .ok (.iload_n 3, 1) := by decide +kernel
theorem dL_law_802 : decode cL_law 802 = .ok (.iconst 1, 1) := by decide +kernel
theorem dL_law_803 : decode cL_law 803 = .ok (.iadd, 1) := by decide +kernel
theorem dL_law_804 : decode cL_law 804 = .ok (.iaload, 1) := by decide +kernel
theorem dL_law_805 : decode cL_law 805 = .ok (.invokevirtual 112, 3) := by decide +kernel
theorem dL_law_808 : decode cL_law 808 = .ok (.if_icmp .eq 373, 3) := by decide +kernel
theorem dL_law_811 : decode cL_law 811 = .ok (.iconst 0, 1) := by decide +kernel
theorem dL_law_812 : decode cL_law 812 = .ok (.ireturn, 1) := by decide +kernel
theorem dL_law_813 : decode cL_law 813 = .ok (.aload_n 1, 1) := by decide +kernel
theorem dL_law_814 : decode cL_law 814 = .ok (.aload_n 0, 1) := by decide +kernel
theorem dL_law_815 : decode cL_law 815 = .ok (.iload_n 3, 1) := by decide +kernel
theorem dL_law_816 : decode cL_law 816 = .ok (.iconst 1, 1) := by decide +kernel
theorem dL_law_817 : decode cL_law 817 = .ok (.iadd, 1) := by decide +kernel
theorem dL_law_818 : decode cL_law 818 = .ok (.iaload, 1) := by decide +kernel
theorem dL_law_819 : decode cL_law 819 = .ok (.invokevirtual 113, 3) := by decide +kernel
theorem dL_law_822 : decode cL_law 822 = .ok (.aload_n 2, 1) := by decide +kernel
theorem dL_law_823 : decode cL_law 823 = .ok (.aload_n 0, 1) := by decide +kernel
theorem dL_law_824 : decode cL_law 824 = .ok (.iload_n 3, 1) := by decide +kernel
theorem dL_law_825 : decode cL_law 825 = .ok (.iconst 1, 1) := by decide +kernel
theorem dL_law_826 : decode cL_law 826 = .ok (.iadd, 1) := by decide +kernel
theorem dL_law_827 : decode cL_law 827 = .ok (.iaload, 1) := by decide +kernel
theorem dL_law_828 : decode cL_law 828 = .ok (.invokevirtual 117, 3) := by decide +kernel
theorem dL_law_831 : decode cL_law 831 = .ok (.lcmp, 1) := by decide +kernel
theorem dL_law_832 : decode cL_law 832 = .ok (.ifCond .eq 349, 3) := by decide +kernel
theorem dL_law_835 : decode cL_law 835 = .ok (.iconst 0, 1) := by decide +kernel
theorem dL_law_836 : decode cL_law 836 = .ok (.ireturn, 1) := by decide +kernel
theorem dL_law_837 : decode cL_law 837 = .ok (.aload_n 1, 1) := by decide +kernel
theorem dL_law_838 : decode cL_law 838 = .ok (.aload_n 0, 1) := by decide +kernel
theorem dL_law_839 : decode cL_law 839 = .ok (.iload_n 3, 1) := by decide +kernel
theorem dL_law_840 : decode cL_law 840 = .ok (.iconst 1, 1) := by decide +kernel
theorem dL_law_841 : decode cL_law 841 = .ok (.iadd, 1) := by decide +kernel
theorem dL_law_842 : decode cL_law 842 = .ok (.iaload, 1) := by decide +kernel
theorem dL_law_843 : decode cL_law 843 = .ok (.invokevirtual 118, 3) := by decide +kernel
theorem dL_law_846 : decode cL_law 846 = .ok (.aload_n 2, 1) := by decide +kernel
theorem dL_law_847 : decode cL_law 847 = .ok (.aload_n 0, 1) := by decide +kernel
theorem dL_law_848 : decode cL_law 848 = .ok (.iload_n 3, 1) := by decide +kernel
theorem dL_law_849 : decode cL_law 849 = .ok (.iconst 1, 1) := by decide +kernel
theorem dL_law_850 : decode cL_law 850 = .ok (.iadd, 1) := by decide +kernel
theorem dL_law_851 : decode cL_law 851 = .ok (.iaload, 1) := by decide +kernel
theorem dL_law_852 : decode cL_law 852 = .ok (.invokevirtual 121, 3) := by decide +kernel
theorem dL_law_855 : decode cL_law 855 = .ok (.lcmp, 1) := by decide +kernel
theorem dL_law_856 : decode cL_law 856 = .ok (.ifCond .eq 325, 3) := by decide +kernel
theorem dL_law_859 : decode cL_law 859 = .ok (.iconst 0, 1) := by decide +kernel
theorem dL_law_860 : decode cL_law 860 = .ok (.ireturn, 1) := by decide +kernel
theorem dL_law_861 : decode cL_law 861 = .ok (.aload_n 1, 1) := by decide +kernel
theorem dL_law_862 : decode cL_law 862 = .ok (.aload_n 0, 1) := by decide +kernel
theorem dL_law_863 : decode cL_law 863 = .ok (.iload_n 3, 1) := by decide +kernel
theorem dL_law_864 : decode cL_law 864 = .ok (.iconst 1, 1) := by decide +kernel
theorem dL_law_865 : decode cL_law 865 = .ok (.iadd, 1) := by decide +kernel
theorem dL_law_866 : decode cL_law 866 = .ok (.iaload, 1) := by decide +kernel
theorem dL_law_867 : decode cL_law 867 = .ok (.aload_n 0, 1) := by decide +kernel
theorem dL_law_868 : decode cL_law 868 = .ok (.iload_n 3, 1) := by decide +kernel
theorem dL_law_869 : decode cL_law 869 = .ok (.iconst 2, 1) := by decide +kernel
theorem dL_law_870 : decode cL_law 870 = .ok (.iadd, 1) := by decide +kernel
theorem dL_law_871 : decode cL_law 871 = .ok (.iaload, 1) := by decide +kernel
theorem dL_law_872 : decode cL_law 872 = .ok (.invokevirtual 122, 3) := by decide +kernel
theorem dL_law_875 : decode cL_law 875 = .ok (.aload_n 2, 1) := by decide +kernel
theorem dL_law_876 : decode cL_law 876 = .ok (.aload_n 0, 1) := by decide +kernel
theorem dL_law_877 : decode cL_law 877 = .ok (.iload_n 3, 1) := by decide +kernel
theorem dL_law_878 : decode cL_law 878 = .ok (.iconst 1, 1) := by decide +kernel
theorem dL_law_879 : decode cL_law 879 = .ok (.iadd, 1) := by decide +kernel
theorem dL_law_880 : decode cL_law 880 = .ok (.iaload, 1) := by decide +kernel
theorem dL_law_881 : decode cL_law 881 = .ok (.aload_n 0, 1) := by decide +kernel
theorem dL_law_882 : decode cL_law 882 = .ok (.iload_n 3, 1) := by decide +kernel
theorem dL_law_883 : decode cL_law 883 = .ok (.iconst 2, 1) := by decide +kernel
theorem dL_law_884 : decode cL_law 884 = .ok (.iadd, 1) := by decide +kernel
theorem dL_law_885 : decode cL_law 885 = .ok (.iaload, 1) := by decide +kernel
theorem dL_law_886 : decode cL_law 886 = .ok (.invokevirtual 125, 3) := by decide +kernel
theorem dL_law_889 : decode cL_law 889 = .ok (.if_icmp .eq 292, 3) := by decide +kernel
theorem dL_law_892 : decode cL_law 892 = .ok (.iconst 0, 1) := by decide +kernel
theorem dL_law_893 : decode cL_law 893 = .ok (.ireturn, 1) := by decide +kernel
theorem dL_law_894 : decode cL_law 894 = .ok (.aload_n 1, 1) := by decide +kernel
theorem dL_law_895 : decode cL_law 895 = .ok (.aload_n 0, 1) := by decide +kernel
theorem dL_law_896 : decode cL_law 896 = .ok (.iload_n 3, 1) := by decide +kernel
theorem dL_law_897 : decode cL_law 897 = .ok (.iconst 1, 1) := by decide +kernel
theorem dL_law_898 : decode cL_law 898 = .ok (.iadd, 1) := by decide +kernel
theorem dL_law_899 : decode cL_law 899 = .ok (.iaload, 1) := by decide +kernel
theorem dL_law_900 : decode cL_law 900 = .ok (.aload_n 0, 1) := by decide +kernel
theorem dL_law_901 : decode cL_law 901 = .ok (.iload_n 3, 1) := by decide +kernel
theorem dL_law_902 : decode cL_law 902 = .ok (.iconst 2, 1) := by decide +kernel
theorem dL_law_903 : decode cL_law 903 = .ok (.iadd, 1) := by decide +kernel
theorem dL_law_904 : decode cL_law 904 = .ok (.iaload, 1) := by decide +kernel
theorem dL_law_905 : decode cL_law 905 = .ok (.invokevirtual 126, 3) := by decide +kernel
theorem dL_law_908 : decode cL_law 908 = .ok (.aload_n 2, 1) := by decide +kernel
theorem dL_law_909 : decode cL_law 909 = .ok (.aload_n 0, 1) := by decide +kernel
theorem dL_law_910 : decode cL_law 910 = .ok (.iload_n 3, 1) := by decide +kernel
theorem dL_law_911 : decode cL_law 911 = .ok (.iconst 1, 1) := by decide +kernel
theorem dL_law_912 : decode cL_law 912 = .ok (.iadd, 1) := by decide +kernel
theorem dL_law_913 : decode cL_law 913 = .ok (.iaload, 1) := by decide +kernel
theorem dL_law_914 : decode cL_law 914 = .ok (.aload_n 0, 1) := by decide +kernel
theorem dL_law_915 : decode cL_law 915 = .ok (.iload_n 3, 1) := by decide +kernel
theorem dL_law_916 : decode cL_law 916 = .ok (.iconst 2, 1) := by decide +kernel
theorem dL_law_917 : decode cL_law 917 = .ok (.iadd, 1) := by decide +kernel
theorem dL_law_918 : decode cL_law 918 = .ok (.iaload, 1) := by decide +kernel
theorem dL_law_919 : decode cL_law 919 = .ok (.invokevirtual 129, 3) := by decide +kernel
theorem dL_law_922 : decode cL_law 922 = .ok (.if_icmp .eq 259, 3) := by decide +kernel
theorem dL_law_925 : decode cL_law 925 = .ok (.iconst 0, 1) := by decide +kernel
theorem dL_law_926 : decode cL_law 926 = .ok (.ireturn, 1) := by decide +kernel
theorem dL_law_927 : decode cL_law 927 = .ok (.aload_n 1, 1) := by decide +kernel
theorem dL_law_928 : decode cL_law 928 = .ok (.aload_n 0, 1) := by decide +kernel
theorem dL_law_929 : decode cL_law 929 = .ok (.iload_n 3, 1) := by decide +kernel
theorem dL_law_930 : decode cL_law 930 = .ok (.iconst 1, 1) := by decide +kernel
theorem dL_law_931 : decode cL_law 931 = .ok (.iadd, 1) := by decide +kernel
theorem dL_law_932 : decode cL_law 932 = .ok (.iaload, 1) := by decide +kernel
theorem dL_law_933 : decode cL_law 933 = .ok (.aload_n 0, 1) := by decide +kernel
theorem dL_law_934 : decode cL_law 934 = .ok (.iload_n 3, 1) := by decide +kernel
theorem dL_law_935 : decode cL_law 935 = .ok (.iconst 2, 1) := by decide +kernel
theorem dL_law_936 : decode cL_law 936 = .ok (.iadd, 1) := by decide +kernel
theorem dL_law_937 : decode cL_law 937 = .ok (.iaload, 1) := by decide +kernel
theorem dL_law_938 : decode cL_law 938 = .ok (.invokevirtual 130, 3) := by decide +kernel
theorem dL_law_941 : decode cL_law 941 = .ok (.aload_n 2, 1) := by decide +kernel
theorem dL_law_942 : decode cL_law 942 = .ok (.aload_n 0, 1) := by decide +kernel
theorem dL_law_943 : decode cL_law 943 = .ok (.iload_n 3, 1) := by decide +kernel
theorem dL_law_944 : decode cL_law 944 = .ok (.iconst 1, 1) := by decide +kernel
theorem dL_law_945 : decode cL_law 945 = .ok (.iadd, 1) := by decide +kernel
theorem dL_law_946 : decode cL_law 946 = .ok (.iaload, 1) := by decide +kernel
theorem dL_law_947 : decode cL_law 947 = .ok (.aload_n 0, 1) := by decide +kernel
theorem dL_law_948 : decode cL_law 948 = .ok (.iload_n 3, 1) := by decide +kernel
theorem dL_law_949 : decode cL_law 949 = .ok (.iconst 2, 1) := by decide +kernel
theorem dL_law_950 : decode cL_law 950 = .ok (.iadd, 1) := by decide +kernel
theorem dL_law_951 : decode cL_law 951 = .ok (.iaload, 1) := by decide +kernel
theorem dL_law_952 : decode cL_law 952 = .ok (.invokevirtual 133, 3) := by decide +kernel
theorem dL_law_955 : decode cL_law 955 = .ok (.if_icmp .eq 226, 3) := by decide +kernel
theorem dL_law_958 : decode cL_law 958 = .ok (.iconst 0, 1) := by decide +kernel
theorem dL_law_959 : decode cL_law 959 = .ok (.ireturn, 1) := by decide +kernel
theorem dL_law_960 : decode cL_law 960 = .ok (.aload_n 1, 1) := by decide +kernel
theorem dL_law_961 : decode cL_law 961 = .ok (.aload_n 0, 1) := by decide +kernel
theorem dL_law_962 : decode cL_law 962 = .ok (.iload_n 3, 1) := by decide +kernel
theorem dL_law_963 : decode cL_law 963 = .ok (.iconst 1, 1) := by decide +kernel
theorem dL_law_964 : decode cL_law 964 = .ok (.iadd, 1) := by decide +kernel
theorem dL_law_965 : decode cL_law 965 = .ok (.iaload, 1) := by decide +kernel
theorem dL_law_966 : decode cL_law 966 = .ok (.invokevirtual 134, 3) := by decide +kernel
theorem dL_law_969 : decode cL_law 969 = .ok (.aload_n 2, 1) := by decide +kernel
theorem dL_law_970 : decode cL_law 970 = .ok (.aload_n 0, 1) := by decide +kernel
theorem dL_law_971 : decode cL_law 971 = .ok (.iload_n 3, 1) := by decide +kernel
theorem dL_law_972 : decode cL_law 972 = .ok (.iconst 1, 1) := by decide +kernel
theorem dL_law_973 : decode cL_law 973 = .ok (.iadd, 1) := by decide +kernel
theorem dL_law_974 : decode cL_law 974 = .ok (.iaload, 1) := by decide +kernel
theorem dL_law_975 : decode cL_law 975 = .ok (.invokevirtual 137, 3) := by decide +kernel
theorem dL_law_978 : decode cL_law 978 = .ok (.if_icmp .eq 203, 3) := by decide +kernel
theorem dL_law_981 : decode cL_law 981 = .ok (.iconst 0, 1) := by decide +kernel
theorem dL_law_982 : decode cL_law 982 = .ok (.ireturn, 1) := by decide +kernel
theorem dL_law_983 : decode cL_law 983 = .ok (.aload_n 1, 1) := by decide +kernel
theorem dL_law_984 : decode cL_law 984 = .ok (.aload_n 0, 1) := by decide +kernel
theorem dL_law_985 : decode cL_law 985 = .ok (.iload_n 3, 1) := by decide +kernel
theorem dL_law_986 : decode cL_law 986 = .ok (.iconst 1, 1) := by decide +kernel
theorem dL_law_987 : decode cL_law 987 = .ok (.iadd, 1) := by decide +kernel
theorem dL_law_988 : decode cL_law 988 = .ok (.iaload, 1) := by decide +kernel
theorem dL_law_989 : decode cL_law 989 = .ok (.invokevirtual 138, 3) := by decide +kernel
theorem dL_law_992 : decode cL_law 992 = .ok (.aload_n 2, 1) := by decide +kernel
theorem dL_law_993 : decode cL_law 993 = .ok (.aload_n 0, 1) := by decide +kernel
theorem dL_law_994 : decode cL_law 994 = .ok (.iload_n 3, 1) := by decide +kernel
theorem dL_law_995 : decode cL_law 995 = .ok (.iconst 1, 1) := by decide +kernel
theorem dL_law_996 : decode cL_law 996 = .ok (.iadd, 1) := by decide +kernel
theorem dL_law_997 : decode cL_law 997 = .ok (.iaload, 1) := by decide +kernel
theorem dL_law_998 : decode cL_law 998 = .ok (.invokevirtual 141, 3) := by decide +kernel
theorem dL_law_1001 : decode cL_law 1001 = .ok (.if_icmp .eq 180, 3) := by decide +kernel
theorem dL_law_1004 : decode cL_law 1004 = .ok (.iconst 0, 1) := by decide +kernel
theorem dL_law_1005 : decode cL_law 1005 = .ok (.ireturn, 1) := by decide +kernel
theorem dL_law_1006 : decode cL_law 1006 = .ok (.aload_n 1, 1) := by decide +kernel
theorem dL_law_1007 : decode cL_law 1007 = .ok (.aload_n 0, 1) := by decide +kernel
theorem dL_law_1008 : decode cL_law 1008 = .ok (.iload_n 3, 1) := by decide +kernel
theorem dL_law_1009 : decode cL_law 1009 = .ok (.iconst 1, 1) := by decide +kernel
theorem dL_law_1010 : decode cL_law 1010 = .ok (.iadd, 1) := by decide +kernel
theorem dL_law_1011 : decode cL_law 1011 = .ok (.iaload, 1) := by decide +kernel
theorem dL_law_1012 : decode cL_law 1012 = .ok (.aload_n 0, 1) := by decide +kernel
theorem dL_law_1013 : decode cL_law 1013 = .ok (.iload_n 3, 1) := by decide +kernel
theorem dL_law_1014 : decode cL_law 1014 = .ok (.iconst 2, 1) := by decide +kernel
theorem dL_law_1015 : decode cL_law 1015 = .ok (.iadd, 1) := by decide +kernel
theorem dL_law_1016 : decode cL_law 1016 = .ok (.iaload, 1) := by decide +kernel
theorem dL_law_1017 : decode cL_law 1017 = .ok (.aload_n 0, 1) := by decide +kernel
theorem dL_law_1018 : decode cL_law 1018 = .ok (.iload_n 3, 1) := by decide +kernel
theorem dL_law_1019 : decode cL_law 1019 = .ok (.iconst 3, 1) := by decide +kernel
theorem dL_law_1020 : decode cL_law 1020 = .ok (.iadd, 1) := by decide +kernel
theorem dL_law_1021 : decode cL_law 1021 = .ok (.iaload, 1) := by decide +kernel
theorem dL_law_1022 : decode cL_law 1022 = .ok (.invokevirtual 142, 3) := by decide +kernel
theorem dL_law_1025 : decode cL_law 1025 = .ok (.aload_n 2, 1) := by decide +kernel
theorem dL_law_1026 : decode cL_law 1026 = .ok (.aload_n 0, 1) := by decide +kernel
theorem dL_law_1027 : decode cL_law 1027 = .ok (.iload_n 3, 1) := by decide +kernel
theorem dL_law_1028 : decode cL_law 1028 = .ok (.iconst 1, 1) := by decide +kernel
theorem dL_law_1029 : decode cL_law 1029 = .ok (.iadd, 1) := by decide +kernel
theorem dL_law_1030 : decode cL_law 1030 = .ok (.iaload, 1) := by decide +kernel
theorem dL_law_1031 : decode cL_law 1031 = .ok (.aload_n 0, 1) := by decide +kernel
theorem dL_law_1032 : decode cL_law 1032 = .ok (.iload_n 3, 1) := by decide +kernel
theorem dL_law_1033 : decode cL_law 1033 = .ok (.iconst 2, 1) := by decide +kernel
theorem dL_law_1034 : decode cL_law 1034 = .ok (.iadd, 1) := by decide +kernel
theorem dL_law_1035 : decode cL_law 1035 = .ok (.iaload, 1) := by decide +kernel
theorem dL_law_1036 : decode cL_law 1036 = .ok (.aload_n 0, 1) := by decide +kernel
theorem dL_law_1037 : decode cL_law 1037 = .ok (.iload_n 3, 1) := by decide +kernel
theorem dL_law_1038 : decode cL_law 1038 = .ok (.iconst 3, 1) := by decide +kernel
theorem dL_law_1039 : decode cL_law 1039 = .ok (.iadd, 1) := by decide +kernel
theorem dL_law_1040 : decode cL_law 1040 = .ok (.iaload, 1) := by decide +kernel
theorem dL_law_1041 : decode cL_law 1041 = .ok (.invokevirtual 145, 3) := by decide +kernel
theorem dL_law_1044 : decode cL_law 1044 = .ok (.if_icmp .eq 137, 3) := by decide +kernel
theorem dL_law_1047 : decode cL_law 1047 = .ok (.iconst 0, 1) := by decide +kernel
theorem dL_law_1048 : decode cL_law 1048 = .ok (.ireturn, 1) := by decide +kernel
theorem dL_law_1049 : decode cL_law 1049 = .ok (.aload_n 1, 1) := by decide +kernel
theorem dL_law_1050 : decode cL_law 1050 = .ok (.aload_n 0, 1) := by decide +kernel
theorem dL_law_1051 : decode cL_law 1051 = .ok (.iload_n 3, 1) := by decide +kernel
theorem dL_law_1052 : decode cL_law 1052 = .ok (.iconst 1, 1) := by decide +kernel
theorem dL_law_1053 : decode cL_law 1053 = .ok (.iadd, 1) := by decide +kernel
theorem dL_law_1054 : decode cL_law 1054 = .ok (.iaload, 1) := by decide +kernel
theorem dL_law_1055 : decode cL_law 1055 = .ok (.aload_n 0, 1) := by decide +kernel
theorem dL_law_1056 : decode cL_law 1056 = .ok (.iload_n 3, 1) := by decide +kernel
theorem dL_law_1057 : decode cL_law 1057 = .ok (.iconst 2, 1) := by decide +kernel
theorem dL_law_1058 : decode cL_law 1058 = .ok (.iadd, 1) := by decide +kernel
theorem dL_law_1059 : decode cL_law 1059 = .ok (.iaload, 1) := by decide +kernel
theorem dL_law_1060 : decode cL_law 1060 = .ok (.aload_n 0, 1) := by decide +kernel
theorem dL_law_1061 : decode cL_law 1061 = .ok (.iload_n 3, 1) := by decide +kernel
theorem dL_law_1062 : decode cL_law 1062 = .ok (.iconst 3, 1) := by decide +kernel
theorem dL_law_1063 : decode cL_law 1063 = .ok (.iadd, 1) := by decide +kernel
theorem dL_law_1064 : decode cL_law 1064 = .ok (.iaload, 1) := by decide +kernel
theorem dL_law_1065 : decode cL_law 1065 = .ok (.invokevirtual 146, 3) := by decide +kernel
theorem dL_law_1068 : decode cL_law 1068 = .ok (.aload_n 2, 1) := by decide +kernel
theorem dL_law_1069 : decode cL_law 1069 = .ok (.aload_n 0, 1) := by decide +kernel
theorem dL_law_1070 : decode cL_law 1070 = .ok (.iload_n 3, 1) := by decide +kernel
theorem dL_law_1071 : decode cL_law 1071 = .ok (.iconst 1, 1) := by decide +kernel
theorem dL_law_1072 : decode cL_law 1072 = .ok (.iadd, 1) := by decide +kernel
theorem dL_law_1073 : decode cL_law 1073 = .ok (.iaload, 1) := by decide +kernel
theorem dL_law_1074 : decode cL_law 1074 = .ok (.aload_n 0, 1) := by decide +kernel
theorem dL_law_1075 : decode cL_law 1075 = .ok (.iload_n 3, 1) := by decide +kernel
theorem dL_law_1076 : decode cL_law 1076 = .ok (.iconst 2, 1) := by decide +kernel
theorem dL_law_1077 : decode cL_law 1077 = .ok (.iadd, 1) := by decide +kernel
theorem dL_law_1078 : decode cL_law 1078 = .ok (.iaload, 1) := by decide +kernel
theorem dL_law_1079 : decode cL_law 1079 = .ok (.aload_n 0, 1) := by decide +kernel
theorem dL_law_1080 : decode cL_law 1080 = .ok (.iload_n 3, 1) := by decide +kernel
theorem dL_law_1081 : decode cL_law 1081 = .ok (.iconst 3, 1) := by decide +kernel
theorem dL_law_1082 : decode cL_law 1082 = .ok (.iadd, 1) := by decide +kernel
theorem dL_law_1083 : decode cL_law 1083 = .ok (.iaload, 1) := by decide +kernel
theorem dL_law_1084 : decode cL_law 1084 = .ok (.invokevirtual 149, 3) := by decide +kernel
theorem dL_law_1087 : decode cL_law 1087 = .ok (.if_icmp .eq 94, 3) := by decide +kernel
theorem dL_law_1090 : decode cL_law 1090 = .ok (.iconst 0, 1) := by decide +kernel
theorem dL_law_1091 : decode cL_law 1091 = .ok (.ireturn, 1) := by decide +kernel
theorem dL_law_1092 : decode cL_law 1092 = .ok (.aload_n 1, 1) := by decide +kernel
theorem dL_law_1093 : decode cL_law 1093 = .ok (.aload_n 0, 1) := by decide +kernel
theorem dL_law_1094 : decode cL_law 1094 = .ok (.iload_n 3, 1) := by decide +kernel
theorem dL_law_1095 : decode cL_law 1095 = .ok (.iconst 1, 1) := by decide +kernel
theorem dL_law_1096 : decode cL_law 1096 = .ok (.iadd, 1) := by decide +kernel
theorem dL_law_1097 : decode cL_law 1097 = .ok (.iaload, 1) := by decide +kernel
theorem dL_law_1098 : decode cL_law 1098 = .ok (.aload_n 0, 1) := by decide +kernel
theorem dL_law_1099 : decode cL_law 1099 = .ok (.iload_n 3, 1) := by decide +kernel
theorem dL_law_1100 : decode cL_law 1100 = .ok (.iconst 2, 1) := by decide +kernel
theorem dL_law_1101 : decode cL_law 1101 = .ok (.iadd, 1) := by decide +kernel
theorem dL_law_1102 : decode cL_law 1102 = .ok (.iaload, 1) := by decide +kernel
theorem dL_law_1103 : decode cL_law 1103 = .ok (.aload_n 0, 1) := by decide +kernel
theorem dL_law_1104 : decode cL_law 1104 = .ok (.iload_n 3, 1) := by decide +kernel
theorem dL_law_1105 : decode cL_law 1105 = .ok (.iconst 3, 1) := by decide +kernel
theorem dL_law_1106 : decode cL_law 1106 = .ok (.iadd, 1) := by decide +kernel
theorem dL_law_1107 : decode cL_law 1107 = .ok (.iaload, 1) := by decide +kernel
theorem dL_law_1108 : decode cL_law 1108 = .ok (.aload_n 0, 1) := by decide +kernel
theorem dL_law_1109 : decode cL_law 1109 = .ok (.iload_n 3, 1) := by decide +kernel
theorem dL_law_1110 : decode cL_law 1110 = .ok (.iconst 4, 1) := by decide +kernel
theorem dL_law_1111 : decode cL_law 1111 = .ok (.iadd, 1) := by decide +kernel
theorem dL_law_1112 : decode cL_law 1112 = .ok (.iaload, 1) := by decide +kernel
theorem dL_law_1113 : decode cL_law 1113 = .ok (.invokevirtual 150, 3) := by decide +kernel
theorem dL_law_1116 : decode cL_law 1116 = .ok (.aload_n 2, 1) := by decide +kernel
theorem dL_law_1117 : decode cL_law 1117 = .ok (.aload_n 0, 1) := by decide +kernel
theorem dL_law_1118 : decode cL_law 1118 = .ok (.iload_n 3, 1) := by decide +kernel
theorem dL_law_1119 : decode cL_law 1119 = .ok (.iconst 1, 1) := by decide +kernel
theorem dL_law_1120 : decode cL_law 1120 = .ok (.iadd, 1) := by decide +kernel
theorem dL_law_1121 : decode cL_law 1121 = .ok (.iaload, 1) := by decide +kernel
theorem dL_law_1122 : decode cL_law 1122 = .ok (.aload_n 0, 1) := by decide +kernel
theorem dL_law_1123 : decode cL_law 1123 = .ok (.iload_n 3, 1) := by decide +kernel
theorem dL_law_1124 : decode cL_law 1124 = .ok (.iconst 2, 1) := by decide +kernel
theorem dL_law_1125 : decode cL_law 1125 = .ok (.iadd, 1) := by decide +kernel
theorem dL_law_1126 : decode cL_law 1126 = .ok (.iaload, 1) := by decide +kernel
theorem dL_law_1127 : decode cL_law 1127 = .ok (.aload_n 0, 1) := by decide +kernel
theorem dL_law_1128 : decode cL_law 1128 = .ok (.iload_n 3, 1) := by decide +kernel
theorem dL_law_1129 : decode cL_law 1129 = .ok (.iconst 3, 1) := by decide +kernel
theorem dL_law_1130 : decode cL_law 1130 = .ok (.iadd, 1) := by decide +kernel
theorem dL_law_1131 : decode cL_law 1131 = .ok (.iaload, 1) := by decide +kernel
theorem dL_law_1132 : decode cL_law 1132 = .ok (.aload_n 0, 1) := by decide +kernel
theorem dL_law_1133 : decode cL_law 1133 = .ok (.iload_n 3, 1) := by decide +kernel
theorem dL_law_1134 : decode cL_law 1134 = .ok (.iconst 4, 1) := by decide +kernel
theorem dL_law_1135 : decode cL_law 1135 = .ok (.iadd, 1) := by decide +kernel
theorem dL_law_1136 : decode cL_law 1136 = .ok (.iaload, 1) := by decide +kernel
theorem dL_law_1137 : decode cL_law 1137 = .ok (.invokevirtual 154, 3) := by decide +kernel
theorem dL_law_1140 : decode cL_law 1140 = .ok (.if_icmp .eq 41, 3) := by decide +kernel
theorem dL_law_1143 : decode cL_law 1143 = .ok (.iconst 0, 1) := by decide +kernel
theorem dL_law_1144 : decode cL_law 1144 = .ok (.ireturn, 1) := by decide +kernel
theorem dL_law_1145 : decode cL_law 1145 = .ok (.aload_n 1, 1) := by decide +kernel
theorem dL_law_1146 : decode cL_law 1146 = .ok (.invokevirtual 155, 3) := by decide +kernel
theorem dL_law_1149 : decode cL_law 1149 = .ok (.aload_n 2, 1) := by decide +kernel
theorem dL_law_1150 : decode cL_law 1150 = .ok (.invokevirtual 158, 3) := by decide +kernel
theorem dL_law_1153 : decode cL_law 1153 = .ok (.if_icmp .eq 28, 3) := by decide +kernel
theorem dL_law_1156 : decode cL_law 1156 = .ok (.iconst 0, 1) := by decide +kernel
theorem dL_law_1157 : decode cL_law 1157 = .ok (.ireturn, 1) := by decide +kernel
theorem dL_law_1158 : decode cL_law 1158 = .ok (.aload_n 1, 1) := by decide +kernel
theorem dL_law_1159 : decode cL_law 1159 = .ok (.aload_n 0, 1) := by decide +kernel
theorem dL_law_1160 : decode cL_law 1160 = .ok (.iload_n 3, 1) := by decide +kernel
theorem dL_law_1161 : decode cL_law 1161 = .ok (.iconst 1, 1) := by decide +kernel
theorem dL_law_1162 : decode cL_law 1162 = .ok (.iadd, 1) := by decide +kernel
theorem dL_law_1163 : decode cL_law 1163 = .ok (.iaload, 1) := by decide +kernel
theorem dL_law_1164 : decode cL_law 1164 = .ok (.invokevirtual 159, 3) := by decide +kernel
theorem dL_law_1167 : decode cL_law 1167 = .ok (.aload_n 2, 1) := by decide +kernel
theorem dL_law_1168 : decode cL_law 1168 = .ok (.aload_n 0, 1) := by decide +kernel
theorem dL_law_1169 : decode cL_law 1169 = .ok (.iload_n 3, 1) := by decide +kernel
theorem dL_law_1170 : decode cL_law 1170 = .ok (.iconst 1, 1) := by decide +kernel
theorem dL_law_1171 : decode cL_law 1171 = .ok (.iadd, 1) := by decide +kernel
theorem dL_law_1172 : decode cL_law 1172 = .ok (.iaload, 1) := by decide +kernel
theorem dL_law_1173 : decode cL_law 1173 = .ok (.invokevirtual 162, 3) := by decide +kernel
theorem dL_law_1176 : decode cL_law 1176 = .ok (.if_icmp .eq 5, 3) := by decide +kernel
theorem dL_law_1179 : decode cL_law 1179 = .ok (.iconst 0, 1) := by decide +kernel
theorem dL_law_1180 : decode cL_law 1180 = .ok (.ireturn, 1) := by decide +kernel
theorem dL_law_1181 : decode cL_law 1181 = .ok (.iinc 3 5, 3) := by decide +kernel
theorem dL_law_1184 : decode cL_law 1184 = .ok (.goto (-1166), 3) := by decide +kernel
theorem dL_law_1187 : decode cL_law 1187 = .ok (.iconst 1, 1) := by decide +kernel
theorem dL_law_1188 : decode cL_law 1188 = .ok (.ireturn, 1) := by decide +kernel
end
section
/-! ===== THE MACHINE OF NUMBERED CELLS: a world is a list of shapes S and a memory M of ints; references are cell numbers ===== -/
def gw : List Cond := lw_tbl.filter goodWord
theorem gw_in {w : Cond} (h : w ∈ lw_tbl) (hg : goodWord w = true) : w ∈ gw := List.mem_filter.mpr ⟨h, hg⟩
theorem gw_ok : ∀ w ∈ gw, (w.onTables && w.keeps) = true ∨ ∃ ty, w = .arrayClass ty := fun _ h => good_of_word (List.mem_filter.mp h).2
/-- a method: its name, code, number of locals, return type, room -/
abbrev Mi : Type := MethodName × ByteArray × Nat × Option FieldType × Room
abbrev mY (i : Mi) : MethodName := i.1
abbrev mC (i : Mi) : ByteArray := i.2.1
abbrev mL (i : Mi) : Nat := i.2.2.1
abbrev mR (i : Mi) : Option FieldType := i.2.2.2.1
abbrev mM (i : Mi) : Room := i.2.2.2.2
def wY (i : Mi) : List Cond := .code (mY i) (mC i) (mL i) (mR i) :: gw
/-- the room of a method that makes nothing, at most d calls deep -/
abbrev rmk (d : Nat) : Room := { frames := d, cells := 0, slots := 0, locals := 40 * d }
/-- a cell's shape: an array of ints (its type, its length); an array of references; an object (its number, for each field none: an int, or a reference) -/
abbrev Ds : Type := (FieldType × Nat) ⊕ ((String × List (Option Nat)) ⊕ (Nat × List (Option (Option Nat))))
abbrev Mm : Type := Nat → Nat → Int32
def lk {α : Type} : List α → Nat → Option α
  | [], _ => none
  | a :: _, 0 => some a
  | _ :: l, n + 1 => lk l n
theorem lk_eq {α : Type} : ∀ (l : List α) (n : Nat), lk l n = l[n]?
  | [], n => by simp [lk]
  | a :: l, 0 => by simp [lk]
  | a :: l, n + 1 => by simp [lk, lk_eq l n]
/-- a value: a reference is a cell's number; retAddr: an address that lies outside the world -/
def cv (ad : List Nat) (rw : Nat → Nat) : Value → Value
  | .ref c => .ref (ad.getD c 0)
  | .retAddr a => .ref (rw a)
  | v => v
def fv (M : Mm) (c k : Nat) : Option (Option Nat) → Value
  | none => .int (M c k)
  | some none => .null
  | some (some q) => .ref q
def fvs (M : Mm) (c : Nat) : Nat → List (Option (Option Nat)) → List Value
  | _, [] => []
  | k, r :: l => fv M c k r :: fvs M c (k + 1) l
theorem fvs_at (M : Mm) (c : Nat) : ∀ (rs : List (Option (Option Nat))) (k0 k : Nat), (fvs M c k0 rs)[k]? = (rs[k]?).map (fv M c (k0 + k))
  | [], k0, k => by simp [fvs]
  | r :: l, k0, 0 => by simp [fvs]
  | r :: l, k0, k + 1 => by
    have h := fvs_at M c l (k0 + 1) k
    simp only [fvs, List.getElem?_cons_succ, h]
    rw [show k0 + 1 + k = k0 + (k + 1) by omega]
theorem fvs_len (M : Mm) (c : Nat) : ∀ (rs : List (Option (Option Nat))) (k0 : Nat), (fvs M c k0 rs).length = rs.length
  | [], k0 => rfl
  | r :: l, k0 => by simp [fvs, fvs_len M c l (k0 + 1)]
def en (cA : FieldType → ClassId) (ad : List Nat) (rw : Nat → Nat) (M : Mm) (c : Nat) : Ds → va_E
  | .inl (ty, n) => .inl (cA ty, n, .inl (M c))
  | .inr (.inl (C, l)) => .inl (cA (.object C), l.length, .inr (.inr (.inr (.inr (fun i => (l.getD i none).map (fun q => ad.getD q 0))))))
  | .inr (.inr (ci, rs)) => .inr (ci, (fvs M c 0 rs).map (cv ad rw))
def wl (cA : FieldType → ClassId) (ad : List Nat) (rw : Nat → Nat) (M : Mm) : Nat → List Ds → va_W
  | _, [] => []
  | c, d :: l => (ad.getD c 0, en cA ad rw M c d) :: wl cA ad rw M (c + 1) l
theorem wl_at (cA : FieldType → ClassId) (ad : List Nat) (rw : Nat → Nat) (M : Mm) : ∀ (S : List Ds) (c0 j : Nat), (wl cA ad rw M c0 S)[j]? = (S[j]?).map (fun d => (ad.getD (c0 + j) 0, en cA ad rw M (c0 + j) d))
  | [], c0, j => by simp [wl]
  | d :: l, c0, 0 => by simp [wl]
  | d :: l, c0, j + 1 => by
    have h := wl_at cA ad rw M l (c0 + 1) j
    simp only [wl, List.getElem?_cons_succ, h]
    rw [show c0 + 1 + j = c0 + (j + 1) by omega]
theorem wl_lk {cA : FieldType → ClassId} {ad : List Nat} {rw : Nat → Nat} {M : Mm} {S : List Ds} {c : Nat} {d : Ds} (h : lk S c = some d) : (wl cA ad rw M 0 S)[c]? = some (ad.getD c 0, en cA ad rw M c d) := by
  rw [lk_eq] at h
  rw [wl_at, h]
  simp
theorem wl_len (cA : FieldType → ClassId) (ad : List Nat) (rw : Nat → Nat) (M : Mm) : ∀ (S : List Ds) (c0 : Nat), (wl cA ad rw M c0 S).length = S.length
  | [], c0 => rfl
  | d :: l, c0 => by simp [wl, wl_len cA ad rw M l (c0 + 1)]
/-- one int of the memory is written -/
def up2 (M : Mm) (c k : Nat) (v : Int32) : Mm := fun c' => if c' = c then upd (M c) k v else M c'
theorem up2_s (M : Mm) (c k : Nat) (v : Int32) : up2 M c k v c = upd (M c) k v := by simp [up2]
theorem up2_n (M : Mm) {c k c' : Nat} (v : Int32) (h : c' ≠ c) : up2 M c k v c' = M c' := by simp [up2, h]
/-- a row of the memory is written -/
def upr (M : Mm) (c : Nat) (f : Nat → Int32) : Mm := fun c' => if c' = c then f else M c'
theorem upr_s (M : Mm) (c : Nat) (f : Nat → Int32) : upr M c f c = f := by simp [upr]
theorem upr_n (M : Mm) {c c' : Nat} (f : Nat → Int32) (h : c' ≠ c) : upr M c f c' = M c' := by simp [upr, h]
theorem up2_upr (M : Mm) (c k : Nat) (v : Int32) : up2 M c k v = upr M c (upd (M c) k v) := rfl
theorem en_congr {cA : FieldType → ClassId} {ad : List Nat} {rw : Nat → Nat} {M M' : Mm} {c : Nat} (h : M' c = M c) (d : Ds) : en cA ad rw M' c d = en cA ad rw M c d := by
  rcases d with ⟨ty, n⟩ | ⟨C, l⟩ | ⟨ci, rs⟩
  · simp [en, h]
  · rfl
  · have : ∀ (rs : List (Option (Option Nat))) (k : Nat), fvs M' c k rs = fvs M c k rs := by
      intro rs
      induction rs with
      | nil => intro k; rfl
      | cons r l ih =>
        intro k
        have hr : fv M' c k r = fv M c k r := by rcases r with _ | _ | q <;> simp [fv, h]
        simp [fvs, ih, hr]
    simp [en, this]
theorem wl_set {cA : FieldType → ClassId} {ad : List Nat} {rw : Nat → Nat} {M M' : Mm} {S : List Ds} {c : Nat} {d : Ds} {e : va_E} (h : lk S c = some d) (hM : ∀ j, j ≠ c → M' j = M j) (he : e = en cA ad rw M' c d) : (wl cA ad rw M 0 S).set c (ad.getD c 0, e) = wl cA ad rw M' 0 S := by
  rw [lk_eq] at h
  apply List.ext_getElem?
  intro j
  by_cases hj : j = c
  · subst hj
    have hl : j < (wl cA ad rw M 0 S).length := by rw [wl_len]; exact (List.getElem?_eq_some_iff.mp h).1
    rw [List.getElem?_set_self hl, wl_at, h, he]
    simp
  · rw [List.getElem?_set_ne (fun q => hj q.symm), wl_at, wl_at]
    cases hS : S[j]? with
    | none => simp
    | some d' => simp [en_congr (hM j hj)]
theorem wl_setS {cA : FieldType → ClassId} {ad : List Nat} {rw : Nat → Nat} {M : Mm} {S : List Ds} {c : Nat} {d d' : Ds} {e : va_E} (h : lk S c = some d) (he : e = en cA ad rw M c d') : (wl cA ad rw M 0 S).set c (ad.getD c 0, e) = wl cA ad rw M 0 (S.set c d') := by
  rw [lk_eq] at h
  apply List.ext_getElem?
  intro j
  by_cases hj : j = c
  · subst hj
    have hl : j < S.length := (List.getElem?_eq_some_iff.mp h).1
    rw [List.getElem?_set_self (by rw [wl_len]; exact hl), wl_at, List.getElem?_set_self hl, he]
    simp
  · rw [List.getElem?_set_ne (fun q => hj q.symm), wl_at, wl_at, List.getElem?_set_ne (fun q => hj q.symm)]
/-- the locals: by their places; none: not known -/
def isL : Value → Bool
  | .long _ => true
  | .double _ => true
  | _ => false
theorem isL_cat (v : Value) : isL v = true ↔ v.category = 2 := by cases v <;> simp [isL, Value.category]
theorem cv_cat (ad : List Nat) (rw : Nat → Nat) (v : Value) : (cv ad rw v).category = v.category := by cases v <;> rfl
abbrev Lv : Type := List (Option Value)
def lh (ad : List Nat) (rw : Nat → Nat) (ls : Array Slot) (nL : Nat) (lv : Lv) : Prop := ls.size = nL ∧ lv_wf ls ∧ ∀ (i : Nat) (v : Value), lk lv i = some (some v) → ls[i]? = some (.val (cv ad rw v))
def killL : Option Value → Option Value
  | some v => if isL v then none else some v
  | none => none
def dropH : Lv → Lv
  | [] => []
  | _ :: l => none :: l
def stl : Lv → Nat → Value → Lv
  | [], _, _ => []
  | _ :: l, 0, v => some v :: (if isL v then dropH l else l)
  | o :: l, 1, v => killL o :: stl l 0 v
  | o :: l, i + 2, v => o :: stl l (i + 1) v
theorem stl_at : ∀ (lv : Lv) (i j : Nat) (v w : Value), lk (stl lv i v) j = some (some w) → (j = i ∧ w = v) ∨ (j ≠ i ∧ lk lv j = some (some w) ∧ ¬ (j + 1 = i ∧ isL w = true) ∧ ¬ (j = i + 1 ∧ isL v = true))
  | [], i, j, v, w, h => by simp [stl, lk] at h
  | o :: l, 0, 0, v, w, h => by
    simp only [stl, lk, Option.some.injEq] at h
    exact Or.inl ⟨rfl, h.symm⟩
  | o :: l, 0, j + 1, v, w, h => by
    right
    simp only [stl, lk] at h
    refine ⟨by omega, ?_, by omega, ?_⟩
    · by_cases hv : isL v = true
      · rw [if_pos hv] at h
        cases l with
        | nil => simp [dropH, lk] at h
        | cons a l =>
          cases j with
          | zero => simp [dropH, lk] at h
          | succ j => simpa [dropH, lk] using h
      · rw [if_neg hv] at h
        simpa [lk] using h
    · rintro ⟨hj, hv⟩
      have hj : j = 0 := by omega
      subst hj
      rw [if_pos hv] at h
      cases l with
      | nil => simp [dropH, lk] at h
      | cons a l => simp [dropH, lk] at h
  | o :: l, 1, 0, v, w, h => by
    right
    simp only [stl, lk, Option.some.injEq] at h
    cases o with
    | none => simp [killL] at h
    | some x =>
      simp only [killL] at h
      by_cases hx : isL x = true
      · simp [hx] at h
      · simp only [hx, if_false, Option.some.injEq, Bool.false_eq_true] at h
        subst h
        exact ⟨by omega, by simp [lk], fun q => hx q.2, by omega⟩
  | o :: l, 1, j + 1, v, w, h => by
    simp only [stl, lk] at h
    rcases stl_at l 0 j v w h with ⟨a, b⟩ | ⟨a, b, c, d⟩
    · exact Or.inl ⟨by omega, b⟩
    · exact Or.inr ⟨by omega, by simpa [lk] using b, by omega, fun q => d ⟨by omega, q.2⟩⟩
  | o :: l, i + 2, 0, v, w, h => by
    right
    simp only [stl, lk, Option.some.injEq] at h
    exact ⟨by omega, by simp [lk, h], by omega, by omega⟩
  | o :: l, i + 2, j + 1, v, w, h => by
    simp only [stl, lk] at h
    rcases stl_at l (i + 1) j v w h with ⟨a, b⟩ | ⟨a, b, c, d⟩
    · exact Or.inl ⟨by omega, b⟩
    · exact Or.inr ⟨by omega, by simpa [lk] using b, fun q => c ⟨by omega, q.2⟩, fun q => d ⟨by omega, q.2⟩⟩
/-- the listed locals, in the kit's own words -/
def lvm (ad : List Nat) (rw : Nat → Nat) : Nat → Lv → List (Nat × Value)
  | _, [] => []
  | i, none :: l => lvm ad rw (i + 1) l
  | i, some v :: l => (i, cv ad rw v) :: lvm ad rw (i + 1) l
theorem lvm_mem (ad : List Nat) (rw : Nat → Nat) : ∀ (lv : Lv) (i : Nat) (q : Nat × Value), q ∈ lvm ad rw i lv ↔ ∃ (j : Nat) (v : Value), lk lv j = some (some v) ∧ q = (i + j, cv ad rw v)
  | [], i, q => by simp [lvm, lk]
  | none :: l, i, q => by
    rw [lvm, lvm_mem ad rw l (i + 1) q]
    constructor
    · rintro ⟨j, v, h, e⟩
      exact ⟨j + 1, v, by simpa [lk] using h, by rw [e, show i + 1 + j = i + (j + 1) by omega]⟩
    · rintro ⟨j, v, h, e⟩
      cases j with
      | zero => simp [lk] at h
      | succ j => exact ⟨j, v, by simpa [lk] using h, by rw [e, show i + 1 + j = i + (j + 1) by omega]⟩
  | some x :: l, i, q => by
    rw [lvm, List.mem_cons, lvm_mem ad rw l (i + 1) q]
    constructor
    · rintro (e | ⟨j, v, h, e⟩)
      · exact ⟨0, x, by simp [lk], by simpa using e⟩
      · exact ⟨j + 1, v, by simpa [lk] using h, by rw [e, show i + 1 + j = i + (j + 1) by omega]⟩
    · rintro ⟨j, v, h, e⟩
      cases j with
      | zero =>
        simp only [lk, Option.some.injEq] at h
        subst h
        exact Or.inl (by simpa using e)
      | succ j => exact Or.inr ⟨j, v, by simpa [lk] using h, by rw [e, show i + 1 + j = i + (j + 1) by omega]⟩
theorem lh_has {ad : List Nat} {rw : Nat → Nat} {ls : Array Slot} {nL : Nat} {lv : Lv} : lh ad rw ls nL lv ↔ lv_has ls nL (lvm ad rw 0 lv) := by
  constructor
  · rintro ⟨h1, h2, h3⟩
    refine ⟨h1, h2, fun q hq => ?_⟩
    obtain ⟨j, v, h, e⟩ := (lvm_mem ad rw lv 0 q).mp hq
    rw [e]
    simpa using h3 j v h
  · rintro ⟨h1, h2, h3⟩
    exact ⟨h1, h2, fun i v h => h3 (i, cv ad rw v) ((lvm_mem ad rw lv 0 _).mpr ⟨i, v, h, by simp⟩)⟩
theorem lh_store1 {ad : List Nat} {rw : Nat → Nat} {ls' : Array Slot} {nL i : Nat} {lv : Lv} {v : Value} (h : lv_has ls' nL ((i, cv ad rw v) :: (lvm ad rw 0 lv).filter (fun q => !(q.1 == i) && !(q.1 + 1 == i && q.2.category == 2)))) : lh ad rw ls' nL (stl lv i v) := by
  refine ⟨h.1, h.2.1, fun j w hw => ?_⟩
  rcases stl_at lv i j v w hw with ⟨a, b⟩ | ⟨a, b, c, d⟩
  · subst a; subst b
    exact h.2.2 (j, cv ad rw w) List.mem_cons_self
  · refine h.2.2 (j, cv ad rw w) (List.mem_cons_of_mem _ (List.mem_filter.mpr ⟨(lvm_mem ad rw lv 0 _).mpr ⟨j, w, b, by simp⟩, ?_⟩))
    have hc : ¬ (j + 1 = i ∧ w.category = 2) := fun q => c ⟨q.1, (isL_cat w).mpr q.2⟩
    simp only [cv_cat]
    simp [a]
    omega
theorem lh_store2 {ad : List Nat} {rw : Nat → Nat} {ls' : Array Slot} {nL i : Nat} {lv : Lv} {v : Value} (hv : isL v = true) (h : lv_has ls' nL ((i, cv ad rw v) :: (lvm ad rw 0 lv).filter (fun q => !(q.1 == i) && (!(q.1 == i + 1) && !(q.1 + 1 == i && q.2.category == 2))))) : lh ad rw ls' nL (stl lv i v) := by
  refine ⟨h.1, h.2.1, fun j w hw => ?_⟩
  rcases stl_at lv i j v w hw with ⟨a, b⟩ | ⟨a, b, c, d⟩
  · subst a; subst b
    exact h.2.2 (j, cv ad rw w) List.mem_cons_self
  · refine h.2.2 (j, cv ad rw w) (List.mem_cons_of_mem _ (List.mem_filter.mpr ⟨(lvm_mem ad rw lv 0 _).mpr ⟨j, w, b, by simp⟩, ?_⟩))
    have hc : ¬ (j + 1 = i ∧ w.category = 2) := fun q => c ⟨q.1, (isL_cat w).mpr q.2⟩
    have hd : j ≠ i + 1 := fun q => d ⟨q, hv⟩
    simp only [cv_cat]
    simp [a, hd]
    omega
/-- fewer locals known -/
def lsub : Lv → Lv → Bool
  | _, [] => true
  | [], none :: l => lsub [] l
  | [], some _ :: _ => false
  | _ :: l, none :: l' => lsub l l'
  | none :: _, some _ :: _ => false
  | some _ :: l, some _ :: l' => lsub l l'
end
section
/-! ===== the judgement XW, contracts Cg, and the rules ===== -/
def ktys (cA : FieldType → ClassId) : List (ClassId × FieldType) := [(cA .int, .int), (cA .byte, .byte), (cA .boolean, .boolean), (cA (.object RX6), .object RX6), (cA (.object RX5), .object RX5)]
/-- the constructors that are called across the nest -/
def nestL : List (String × Nat × MethodName) := [(RX9, 9, yX2_init), (RX9, 18, yX6_init), (RX9, 25, yX7_init), (RX8, 11, yX6_init), (RX9, 41, yX0_init), (RX9, 48, yX4_init), (RX9, 55, yX3_init), (RX9, 62, yX1_init)]
def Nst (U : State) : Prop := ∀ q ∈ nestL, va_Nw (.methodLinkNest q.1 q.2.1 q.2.2 RX9) U
/-- the String constants: their addresses are rw 0 .. rw 4, their bytes' rw 100 .. rw 104; statics, nest links, classes of arrays of references -/
def Gs (rw : Nat → Nat) (A : Nat → Prop) (U : State) (H : Heap) : Prop :=
  vk_S 5 [4, 4, 4, 4, 4] [[103, 114, 105, 100], [103, 111, 110, 101], [99, 111, 115, 116], [115, 105, 122, 101], [115, 101, 101, 110]] (fun i => rw i) (fun i => rw (100 + i)) A U H ∧
  (vk_R RX8 102 "grid" (rw 0) U ∧ vk_R RX8 111 "gone" (rw 1) U ∧ vk_R RX8 116 "cost" (rw 2) U ∧ vk_R RX8 121 "size" (rw 3) U ∧ vk_R RX8 126 "seen" (rw 4) U) ∧
  va_Z "java/lang/String" "COMPACT_STRINGS" "Z" (.int 1) A U H ∧
  va_Zq "jdk/internal/util/Preconditions" "SIOOBE_FORMATTER" "Ljava/util/function/BiFunction;" A U H ∧ (va_AO RX6 U ∧ va_AO RX5 U) ∧ Nst U
theorem Nst.warm {s U : State} (hW : s.WarmedH U.vm) (h : Nst s) : Nst U := fun q hq => va_Nw.warmM hW (h q hq)
theorem Nst.same {s U : State} (hv : U.vm = s.vm) (h : Nst s) : Nst U := fun q hq => va_Nw.same rfl hv.symm (h q hq)
theorem Gs.go {rw : Nat → Nat} {A B : Nat → Prop} {s U : State} {H H1 : Heap} (h : Gs rw A s H) (hq : ∀ a : Nat, a < H.size → ¬ A a → H1[a]? = H[a]?) (hAB : ∀ q, B q → A q) (hW : s.WarmedH U.vm) : Gs rw B U H1 :=
  ⟨((h.1.kept hq).narrow hAB).moved hW.alike, ⟨h.2.1.1.warm hW, h.2.1.2.1.warm hW, h.2.1.2.2.1.warm hW, h.2.1.2.2.2.1.warm hW, h.2.1.2.2.2.2.warm hW⟩, ((h.2.2.1.kept hq).narrow hAB).moved hW.alike, ((h.2.2.2.1.kept hq).narrow hAB).moved hW.alike, ⟨h.2.2.2.2.1.1.moved hW.alike, h.2.2.2.2.1.2.moved hW.alike⟩, h.2.2.2.2.2.warm hW⟩
theorem Gs.same {rw : Nat → Nat} {A : Nat → Prop} {s U : State} {H : Heap} (h : Gs rw A s H) (hv : U.vm = s.vm) : Gs rw A U H :=
  have hal : s.vm.Alike U.vm := by rw [hv]; exact Vm.Alike.refl _
  ⟨h.1.moved hal, ⟨h.2.1.1.same hv, h.2.1.2.1.same hv, h.2.1.2.2.1.same hv, h.2.1.2.2.2.1.same hv, h.2.1.2.2.2.2.same hv⟩, h.2.2.1.moved hal, h.2.2.2.1.moved hal, ⟨h.2.2.2.2.1.1.moved hal, h.2.2.2.2.1.2.moved hal⟩, h.2.2.2.2.2.same hv⟩
/-- what stands through a method's run -/
def Cx (i : Mi) (p : Program) (s : State) (m : MethodId) (args : Array Value) (meth : Method) (c : Code) (D : va_G) (cA : FieldType → ClassId) (rw : Nat → Nat) (A : Nat → Prop) : Prop :=
  p.tables.exec = Jvm.exec ∧ c.code = mC i ∧ c.maxLocals = mL i ∧ meth.sig.returnType = mR i ∧ s.vm.findClass (mY i).cls = some m.cls ∧ meth.locks = false ∧ meth.name = (mY i).name ∧ (∀ w ∈ gw, w.before args s = true) ∧ va_K D vwCl (ktys cA) s ∧ (∀ q : Nat, s.heap.size ≤ q → A q) ∧ Gs rw A s s.heap
/-- how a run is to end -/
abbrev Fn : Type := List Frame → Array Value → State → va_G → (FieldType → ClassId) → (Nat → Nat) → (Nat → Prop) → List Nat → State → Prop
def XW (i : Mi) (F : Fn) (cells slots : Nat) (S : List Ds) (M : Mm) (pc : Nat) (lv : Lv) (st : List Value) : Prop :=
  ∀ (p : Program) (l : Launch) (e : Env) (s : State) (m : MethodId) (args : Array Value) (below : List Frame) (meth : Method) (c : Code) (D : va_G) (cA : FieldType → ClassId) (rw : Nat → Nat) (A : Nat → Prop) (ad0 ad : List Nat) (H : Heap) (locs : List Loc) (ls : Array Slot),
    Cx i p s m args meth c D cA rw A → (∃ z, ad = ad0 ++ z) → ad.length = S.length → va_P D vwCl (wl cA ad rw M 0 S) H → va_D A (wl cA ad rw M 0 S) → va_S A s.heap H locs → lh ad rw ls (mL i) lv →
    W p l e (mM i) s m args below meth c H locs cells slots (F below args s D cA rw A ad0) (F0 m pc ls (st.map (cv ad rw)))
def Qx (D : va_G) (cA : FieldType → ClassId) (rw : Nat → Nat) (A : Nat → Prop) (ad0 : List Nat) (post : Option Value → List Ds → Mm → Prop) : Array Value → State → Outcome → State → Prop := fun _ st oc t =>
  (∃ (r : Option Value) (S : List Ds) (M : Mm) (ad : List Nat), oc = .returned (r.map (cv ad rw)) ∧ post r S M ∧ (∃ z, ad = ad0 ++ z) ∧ ad.length = S.length ∧ va_P D vwCl (wl cA ad rw M 0 S) t.heap ∧ va_D A (wl cA ad rw M 0 S)) ∧ va_F A st t
/-- the end of a contract -/
def Fc (i : Mi) (post : Option Value → List Ds → Mm → Prop) : Fn := fun below args s D cA rw A ad0 => MQ below (Qx D cA rw A ad0 post) args s (mM i).cells (mM i).slots A
/-- A CONTRACT: from any state that holds the world S, M the method with these arguments returns, and post holds of its answer and its world -/
def Cg (i : Mi) (avs : List Value) (S : List Ds) (M : Mm) (post : Option Value → List Ds → Mm → Prop) : Prop :=
  ∀ (l : Launch) (D : va_G) (cA : FieldType → ClassId) (rw : Nat → Nat) (ad : List Nat) (sz : Nat), ad.length = S.length →
    Met l (mY i) (wY i) (mM i) (va_Pc (avs.map (cv ad rw)) (fun U => U.heap.size = sz ∧ va_P D vwCl (wl cA ad rw M 0 S) U.heap ∧ va_K D vwCl (ktys cA) U ∧ va_D (fun _ => True) (wl cA ad rw M 0 S) ∧ Gs rw (va_A (wl cA ad rw M 0 S) sz) U U.heap))
      (Qx D cA rw (va_A (wl cA ad rw M 0 S) sz) ad post) (mM i).cells (mM i).slots (va_A (wl cA ad rw M 0 S) sz)
/-- the arguments as locals -/
def lv0 : List Value → Nat → Lv
  | [], n => List.replicate n none
  | _ :: _, 0 => []
  | v :: l, n + 1 => some v :: (if isL v then (match n with | 0 => [] | n + 1 => none :: lv0 l n) else lv0 l n)
def Cg.len : List Value → Nat
  | [] => 0
  | v :: l => (if isL v then 2 else 1) + Cg.len l
theorem lg_sl_len (ad : List Nat) (rw : Nat → Nat) : ∀ (vs : List Value), (lg_sl (vs.map (cv ad rw))).length = Cg.len vs
  | [] => rfl
  | v :: l => by
    have h := lg_sl_len ad rw l
    have hc := cv_cat ad rw v
    by_cases hv : isL v = true
    · have h2 : (cv ad rw v).category = 2 := by rw [hc]; exact (isL_cat v).mp hv
      rw [lg_sl] at h ⊢
      simp only [List.map_cons, List.flatMap_cons, h2, if_true, List.length_append, h, Cg.len, hv]
      rfl
    · have h2 : ¬ (cv ad rw v).category = 2 := by rw [hc]; exact fun q => hv ((isL_cat v).mpr q)
      rw [lg_sl] at h ⊢
      simp only [List.map_cons, List.flatMap_cons, h2, if_false, List.length_append, h, Cg.len, hv]
      rfl
theorem lv0_mem (ad : List Nat) (rw : Nat → Nat) : ∀ (vs : List Value) (n k j : Nat) (w : Value), lk (lv0 vs n) j = some (some w) → (k + j, cv ad rw w) ∈ lv_args k (vs.map (cv ad rw))
  | [], n, k, j, w, h => by
    exfalso
    rw [lv0, lk_eq] at h
    rw [List.getElem?_replicate] at h
    split at h <;> simp at h
  | v :: l, 0, k, j, w, h => by simp [lv0, lk] at h
  | v :: l, n + 1, k, 0, w, h => by
    simp only [lv0, lk, Option.some.injEq] at h
    subst h
    simp only [List.map_cons, lv_args]
    split <;> simp
  | v :: l, n + 1, k, j + 1, w, h => by
    simp only [lv0, lk] at h
    by_cases hv : isL v = true
    · have h2 : (cv ad rw v).category = 2 := by rw [cv_cat]; exact (isL_cat v).mp hv
      rw [if_pos hv] at h
      cases n with
      | zero => simp [lk] at h
      | succ n =>
        cases j with
        | zero => simp [lk] at h
        | succ j =>
          simp only [lk] at h
          have h3 := lv0_mem ad rw l n (k + 2) j w h
          simp only [List.map_cons, lv_args, h2, if_true]
          refine List.mem_cons_of_mem _ ?_
          rw [show k + (j + 1 + 1) = k + 2 + j by omega]
          exact h3
    · have h2 : ¬ (cv ad rw v).category = 2 := by rw [cv_cat]; exact fun q => hv ((isL_cat v).mpr q)
      rw [if_neg hv] at h
      have h3 := lv0_mem ad rw l n (k + 1) j w h
      simp only [List.map_cons, lv_args, h2, if_false]
      refine List.mem_cons_of_mem _ ?_
      rw [show k + (j + 1) = k + 1 + j by omega]
      exact h3
theorem Cg.of {i : Mi} {avs : List Value} {S : List Ds} {M : Mm} {post : Option Value → List Ds → Mm → Prop} (hy : plainName (mY i).cls = true) (hlen : Cg.len avs ≤ mL i)
    (h : XW i (Fc i post) 0 0 S M 0 (lv0 avs (mL i)) []) : Cg i avs S M post := by
  intro l D cA rw ad sz hl
  refine Met.ofW (cc := mC i) (maxL := mL i) (ret := mR i) hy rfl ?_
  intro p e s m args below meth c s₁ B hml hv
  obtain ⟨rfl, hsz, hP, hK, hD0, hG⟩ := hv
  subst hsz
  have hts := atoms_spec (ws := wY i) B.pre
  have hD := hD0.self (sz := s.heap.size)
  have hle := lv_entry (avs.map (cv ad rw)) (n := mL i) (by rw [lg_sl_len]; exact hlen)
  rw [lg_entry_eq]
  refine h p l e s m _ below meth c D cA rw (va_A (wl cA ad rw M 0 S) s.heap.size) ad ad s.heap [] _ ⟨B.exec, B.bytes, hml, B.returns, findClass_of_methodNamed B.named, B.notSynchronized, (name_of_methodNamed B.named B.method).1, fun w hw => hts w (List.mem_cons_of_mem _ hw), hK, fun q h => Or.inr h, hG⟩ ⟨[], by simp⟩ hl hP hD va_S.rf ⟨hle.1, hle.2.1, fun j w hj => ?_⟩
  have hm := hle.2.2 (0 + j, cv ad rw w) (lv0_mem ad rw avs (mL i) 0 j w hj)
  simpa using hm
end
