section
-- ===== PART A: goes FIRST, ahead of the names: the tables' words, and 'selects' of the private methods out of them =====
/-- a private method of a class that the tables say can be made, by its rows of tables_1 -/
def lw_okq (q : MethodName × Nat) : Prop := (q.1.cls ≠ "java/lang/invoke/MethodHandle" ∧ q.1.cls ≠ "java/lang/invoke/VarHandle") ∧ Cond.instantiable q.1.cls q.2 ∈ tables_1 ∧ Cond.privateMethod q.1 ∈ tables_1 ∧ Cond.instanceMethod q.1 ∈ tables_1
theorem lw_p0 : lw_okq (⟨"FutureWishes$Text", "takes", "(C)Z"⟩, 4) := ⟨⟨by decide +kernel, by decide +kernel⟩, List.mem_of_getElem? (i := 80) (by decide +kernel), List.mem_of_getElem? (i := 275) (by decide +kernel), List.mem_of_getElem? (i := 276) (by decide +kernel)⟩
theorem lw_p1 : lw_okq (⟨"FutureWishes$Text", "takesSecond", "(C)Z"⟩, 4) := ⟨⟨by decide +kernel, by decide +kernel⟩, List.mem_of_getElem? (i := 80) (by decide +kernel), List.mem_of_getElem? (i := 279) (by decide +kernel), List.mem_of_getElem? (i := 280) (by decide +kernel)⟩
theorem lw_p2 : lw_okq (⟨"FutureWishes$Text", "takesFirst", "(C)Z"⟩, 4) := ⟨⟨by decide +kernel, by decide +kernel⟩, List.mem_of_getElem? (i := 80) (by decide +kernel), List.mem_of_getElem? (i := 283) (by decide +kernel), List.mem_of_getElem? (i := 284) (by decide +kernel)⟩
theorem lw_p3 : lw_okq (⟨"FutureWishes$Text", "leastRest", "()I"⟩, 4) := ⟨⟨by decide +kernel, by decide +kernel⟩, List.mem_of_getElem? (i := 80) (by decide +kernel), List.mem_of_getElem? (i := 287) (by decide +kernel), List.mem_of_getElem? (i := 288) (by decide +kernel)⟩
theorem lw_p4 : lw_okq (⟨"FutureWishes$Meaning", "putShape", "(III)V"⟩, 8) := ⟨⟨by decide +kernel, by decide +kernel⟩, List.mem_of_getElem? (i := 101) (by decide +kernel), List.mem_of_getElem? (i := 313) (by decide +kernel), List.mem_of_getElem? (i := 314) (by decide +kernel)⟩
theorem lw_p5 : lw_okq (⟨"FutureWishes$Meaning", "depthAt", "(I)I"⟩, 8) := ⟨⟨by decide +kernel, by decide +kernel⟩, List.mem_of_getElem? (i := 101) (by decide +kernel), List.mem_of_getElem? (i := 317) (by decide +kernel), List.mem_of_getElem? (i := 318) (by decide +kernel)⟩
theorem lw_p6 : lw_okq (⟨"java/lang/Throwable", "fillInStackTrace", "(I)Ljava/lang/Throwable;"⟩, 6) := ⟨⟨by decide +kernel, by decide +kernel⟩, List.mem_of_getElem? (i := 424) (by decide +kernel), List.mem_of_getElem? (i := 422) (by decide +kernel), List.mem_of_getElem? (i := 423) (by decide +kernel)⟩
theorem lw_p7 : lw_okq (⟨"FutureWishes", "worldsOfAllWishes", "()I"⟩, 6) := ⟨⟨by decide +kernel, by decide +kernel⟩, List.mem_of_getElem? (i := 20) (by decide +kernel), List.mem_of_getElem? (i := 468) (by decide +kernel), List.mem_of_getElem? (i := 469) (by decide +kernel)⟩
theorem lw_p8 : lw_okq (⟨"FutureWishes", "needWorld", "(I)V"⟩, 6) := ⟨⟨by decide +kernel, by decide +kernel⟩, List.mem_of_getElem? (i := 20) (by decide +kernel), List.mem_of_getElem? (i := 480) (by decide +kernel), List.mem_of_getElem? (i := 481) (by decide +kernel)⟩
theorem lw_p9 : lw_okq (⟨"FutureWishes", "wishesHoldingIn", "(I)I"⟩, 6) := ⟨⟨by decide +kernel, by decide +kernel⟩, List.mem_of_getElem? (i := 20) (by decide +kernel), List.mem_of_getElem? (i := 512) (by decide +kernel), List.mem_of_getElem? (i := 513) (by decide +kernel)⟩
theorem lw_p10 : lw_okq (⟨"FutureWishes", "mixedSigns", "(J)J"⟩, 6) := ⟨⟨by decide +kernel, by decide +kernel⟩, List.mem_of_getElem? (i := 20) (by decide +kernel), List.mem_of_getElem? (i := 516) (by decide +kernel), List.mem_of_getElem? (i := 517) (by decide +kernel)⟩
theorem lw_p11 : lw_okq (⟨"FutureWishes$Meaning", "allRounds", "()I"⟩, 8) := ⟨⟨by decide +kernel, by decide +kernel⟩, List.mem_of_getElem? (i := 101) (by decide +kernel), List.mem_of_getElem? (i := 524) (by decide +kernel), List.mem_of_getElem? (i := 525) (by decide +kernel)⟩
theorem lw_p12 : lw_okq (⟨"FutureWishes$Witness", "put", "(I)V"⟩, 5) := ⟨⟨by decide +kernel, by decide +kernel⟩, List.mem_of_getElem? (i := 164) (by decide +kernel), List.mem_of_getElem? (i := 542) (by decide +kernel), List.mem_of_getElem? (i := 543) (by decide +kernel)⟩
theorem lw_p13 : lw_okq (⟨"FutureWishes$Witness", "go", "(ICII)V"⟩, 5) := ⟨⟨by decide +kernel, by decide +kernel⟩, List.mem_of_getElem? (i := 164) (by decide +kernel), List.mem_of_getElem? (i := 546) (by decide +kernel), List.mem_of_getElem? (i := 547) (by decide +kernel)⟩
theorem lw_p14 : lw_okq (⟨"FutureWishes$Witness", "goNext", "(II)V"⟩, 5) := ⟨⟨by decide +kernel, by decide +kernel⟩, List.mem_of_getElem? (i := 164) (by decide +kernel), List.mem_of_getElem? (i := 550) (by decide +kernel), List.mem_of_getElem? (i := 551) (by decide +kernel)⟩
theorem lw_p15 : lw_okq (⟨"FutureWishes$Witness", "goUntil", "(III)V"⟩, 5) := ⟨⟨by decide +kernel, by decide +kernel⟩, List.mem_of_getElem? (i := 164) (by decide +kernel), List.mem_of_getElem? (i := 558) (by decide +kernel), List.mem_of_getElem? (i := 559) (by decide +kernel)⟩
def lw_privs_1 : List (MethodName × Nat) := [(⟨"FutureWishes$Text", "takes", "(C)Z"⟩, 4), (⟨"FutureWishes$Text", "takesSecond", "(C)Z"⟩, 4), (⟨"FutureWishes$Text", "takesFirst", "(C)Z"⟩, 4), (⟨"FutureWishes$Text", "leastRest", "()I"⟩, 4), (⟨"FutureWishes$Meaning", "putShape", "(III)V"⟩, 8), (⟨"FutureWishes$Meaning", "depthAt", "(I)I"⟩, 8), (⟨"java/lang/Throwable", "fillInStackTrace", "(I)Ljava/lang/Throwable;"⟩, 6), (⟨"FutureWishes", "worldsOfAllWishes", "()I"⟩, 6), (⟨"FutureWishes", "needWorld", "(I)V"⟩, 6), (⟨"FutureWishes", "wishesHoldingIn", "(I)I"⟩, 6), (⟨"FutureWishes", "mixedSigns", "(J)J"⟩, 6), (⟨"FutureWishes$Meaning", "allRounds", "()I"⟩, 8), (⟨"FutureWishes$Witness", "put", "(I)V"⟩, 5), (⟨"FutureWishes$Witness", "go", "(ICII)V"⟩, 5), (⟨"FutureWishes$Witness", "goNext", "(II)V"⟩, 5), (⟨"FutureWishes$Witness", "goUntil", "(III)V"⟩, 5)]
theorem lw_r1 : ∀ q ∈ lw_privs_1, lw_okq q := List.forall_mem_cons.mpr ⟨lw_p0, List.forall_mem_cons.mpr ⟨lw_p1, List.forall_mem_cons.mpr ⟨lw_p2, List.forall_mem_cons.mpr ⟨lw_p3, List.forall_mem_cons.mpr ⟨lw_p4, List.forall_mem_cons.mpr ⟨lw_p5, List.forall_mem_cons.mpr ⟨lw_p6, List.forall_mem_cons.mpr ⟨lw_p7, List.forall_mem_cons.mpr ⟨lw_p8, List.forall_mem_cons.mpr ⟨lw_p9, List.forall_mem_cons.mpr ⟨lw_p10, List.forall_mem_cons.mpr ⟨lw_p11, List.forall_mem_cons.mpr ⟨lw_p12, List.forall_mem_cons.mpr ⟨lw_p13, List.forall_mem_cons.mpr ⟨lw_p14, List.forall_mem_cons.mpr ⟨lw_p15, fun _ h => absurd h List.not_mem_nil⟩⟩⟩⟩⟩⟩⟩⟩⟩⟩⟩⟩⟩⟩⟩⟩
theorem lw_p16 : lw_okq (⟨"FutureWishes$Witness", "layOut", "(II)V"⟩, 5) := ⟨⟨by decide +kernel, by decide +kernel⟩, List.mem_of_getElem? (i := 164) (by decide +kernel), List.mem_of_getElem? (i := 562) (by decide +kernel), List.mem_of_getElem? (i := 563) (by decide +kernel)⟩
theorem lw_p17 : lw_okq (⟨"FutureWishes$Witness", "walk", "(I)I"⟩, 5) := ⟨⟨by decide +kernel, by decide +kernel⟩, List.mem_of_getElem? (i := 164) (by decide +kernel), List.mem_of_getElem? (i := 567) (by decide +kernel), List.mem_of_getElem? (i := 568) (by decide +kernel)⟩
theorem lw_p18 : lw_okq (⟨"FutureWishes$Witness", "nearestLayer", "(I)I"⟩, 5) := ⟨⟨by decide +kernel, by decide +kernel⟩, List.mem_of_getElem? (i := 164) (by decide +kernel), List.mem_of_getElem? (i := 571) (by decide +kernel), List.mem_of_getElem? (i := 572) (by decide +kernel)⟩
theorem lw_p19 : lw_okq (⟨"FutureWishes$Witness", "goAround", "(II)V"⟩, 5) := ⟨⟨by decide +kernel, by decide +kernel⟩, List.mem_of_getElem? (i := 164) (by decide +kernel), List.mem_of_getElem? (i := 575) (by decide +kernel), List.mem_of_getElem? (i := 576) (by decide +kernel)⟩
theorem lw_p20 : lw_okq (⟨"FutureWishes$Witness", "goAgainst", "(ICII)V"⟩, 5) := ⟨⟨by decide +kernel, by decide +kernel⟩, List.mem_of_getElem? (i := 164) (by decide +kernel), List.mem_of_getElem? (i := 580) (by decide +kernel), List.mem_of_getElem? (i := 581) (by decide +kernel)⟩
theorem lw_p21 : lw_okq (⟨"FutureWishes", "mixedWitness", "(J)J"⟩, 6) := ⟨⟨by decide +kernel, by decide +kernel⟩, List.mem_of_getElem? (i := 20) (by decide +kernel), List.mem_of_getElem? (i := 585) (by decide +kernel), List.mem_of_getElem? (i := 586) (by decide +kernel)⟩
theorem lw_p22 : lw_okq (⟨"FutureWishes$Trial", "begin", "(LFutureWishes$State;I)V"⟩, 4) := ⟨⟨by decide +kernel, by decide +kernel⟩, List.mem_of_getElem? (i := 186) (by decide +kernel), List.mem_of_getElem? (i := 613) (by decide +kernel), List.mem_of_getElem? (i := 614) (by decide +kernel)⟩
theorem lw_p23 : lw_okq (⟨"FutureWishes", "mixedFixes", "(JI)J"⟩, 6) := ⟨⟨by decide +kernel, by decide +kernel⟩, List.mem_of_getElem? (i := 20) (by decide +kernel), List.mem_of_getElem? (i := 621) (by decide +kernel), List.mem_of_getElem? (i := 622) (by decide +kernel)⟩
theorem lw_p24 : lw_okq (⟨"FutureWishes$Trial", "note", "(II)V"⟩, 4) := ⟨⟨by decide +kernel, by decide +kernel⟩, List.mem_of_getElem? (i := 186) (by decide +kernel), List.mem_of_getElem? (i := 634) (by decide +kernel), List.mem_of_getElem? (i := 635) (by decide +kernel)⟩
theorem lw_p25 : lw_okq (⟨"FutureWishes$State", "putSign", "(IIC)V"⟩, 6) := ⟨⟨by decide +kernel, by decide +kernel⟩, List.mem_of_getElem? (i := 28) (by decide +kernel), List.mem_of_getElem? (i := 751) (by decide +kernel), List.mem_of_getElem? (i := 752) (by decide +kernel)⟩
theorem lw_p26 : lw_okq (⟨"FutureWishes$State", "putLength", "(II)V"⟩, 6) := ⟨⟨by decide +kernel, by decide +kernel⟩, List.mem_of_getElem? (i := 28) (by decide +kernel), List.mem_of_getElem? (i := 755) (by decide +kernel), List.mem_of_getElem? (i := 756) (by decide +kernel)⟩
theorem lw_p27 : lw_okq (⟨"FutureWishesModel", "save", "()V"⟩, 19) := ⟨⟨by decide +kernel, by decide +kernel⟩, List.mem_of_getElem? (i := 846) (by decide +kernel), List.mem_of_getElem? (i := 925) (by decide +kernel), List.mem_of_getElem? (i := 926) (by decide +kernel)⟩
theorem lw_p28 : lw_okq (⟨"FutureWishesModel", "isWorld", "(I)Z"⟩, 19) := ⟨⟨by decide +kernel, by decide +kernel⟩, List.mem_of_getElem? (i := 846) (by decide +kernel), List.mem_of_getElem? (i := 933) (by decide +kernel), List.mem_of_getElem? (i := 934) (by decide +kernel)⟩
theorem lw_p29 : lw_okq (⟨"FutureWishesModel", "stepMany", "()I"⟩, 19) := ⟨⟨by decide +kernel, by decide +kernel⟩, List.mem_of_getElem? (i := 846) (by decide +kernel), List.mem_of_getElem? (i := 956) (by decide +kernel), List.mem_of_getElem? (i := 957) (by decide +kernel)⟩
theorem lw_p30 : lw_okq (⟨"FutureWishesModel", "readBuffer", "()I"⟩, 19) := ⟨⟨by decide +kernel, by decide +kernel⟩, List.mem_of_getElem? (i := 846) (by decide +kernel), List.mem_of_getElem? (i := 975) (by decide +kernel), List.mem_of_getElem? (i := 976) (by decide +kernel)⟩
theorem lw_p31 : lw_okq (⟨"FutureWishesModel", "stands", "(I)Z"⟩, 19) := ⟨⟨by decide +kernel, by decide +kernel⟩, List.mem_of_getElem? (i := 846) (by decide +kernel), List.mem_of_getElem? (i := 979) (by decide +kernel), List.mem_of_getElem? (i := 980) (by decide +kernel)⟩
def lw_privs_2 : List (MethodName × Nat) := [(⟨"FutureWishes$Witness", "layOut", "(II)V"⟩, 5), (⟨"FutureWishes$Witness", "walk", "(I)I"⟩, 5), (⟨"FutureWishes$Witness", "nearestLayer", "(I)I"⟩, 5), (⟨"FutureWishes$Witness", "goAround", "(II)V"⟩, 5), (⟨"FutureWishes$Witness", "goAgainst", "(ICII)V"⟩, 5), (⟨"FutureWishes", "mixedWitness", "(J)J"⟩, 6), (⟨"FutureWishes$Trial", "begin", "(LFutureWishes$State;I)V"⟩, 4), (⟨"FutureWishes", "mixedFixes", "(JI)J"⟩, 6), (⟨"FutureWishes$Trial", "note", "(II)V"⟩, 4), (⟨"FutureWishes$State", "putSign", "(IIC)V"⟩, 6), (⟨"FutureWishes$State", "putLength", "(II)V"⟩, 6), (⟨"FutureWishesModel", "save", "()V"⟩, 19), (⟨"FutureWishesModel", "isWorld", "(I)Z"⟩, 19), (⟨"FutureWishesModel", "stepMany", "()I"⟩, 19), (⟨"FutureWishesModel", "readBuffer", "()I"⟩, 19), (⟨"FutureWishesModel", "stands", "(I)Z"⟩, 19)]
theorem lw_r2 : ∀ q ∈ lw_privs_2, lw_okq q := List.forall_mem_cons.mpr ⟨lw_p16, List.forall_mem_cons.mpr ⟨lw_p17, List.forall_mem_cons.mpr ⟨lw_p18, List.forall_mem_cons.mpr ⟨lw_p19, List.forall_mem_cons.mpr ⟨lw_p20, List.forall_mem_cons.mpr ⟨lw_p21, List.forall_mem_cons.mpr ⟨lw_p22, List.forall_mem_cons.mpr ⟨lw_p23, List.forall_mem_cons.mpr ⟨lw_p24, List.forall_mem_cons.mpr ⟨lw_p25, List.forall_mem_cons.mpr ⟨lw_p26, List.forall_mem_cons.mpr ⟨lw_p27, List.forall_mem_cons.mpr ⟨lw_p28, List.forall_mem_cons.mpr ⟨lw_p29, List.forall_mem_cons.mpr ⟨lw_p30, List.forall_mem_cons.mpr ⟨lw_p31, fun _ h => absurd h List.not_mem_nil⟩⟩⟩⟩⟩⟩⟩⟩⟩⟩⟩⟩⟩⟩⟩⟩
theorem lw_p32 : lw_okq (⟨"FutureWishesModel", "isWhole", "()Z"⟩, 19) := ⟨⟨by decide +kernel, by decide +kernel⟩, List.mem_of_getElem? (i := 846) (by decide +kernel), List.mem_of_getElem? (i := 993) (by decide +kernel), List.mem_of_getElem? (i := 994) (by decide +kernel)⟩
theorem lw_p33 : lw_okq (⟨"FutureWishesModel", "whyNotNegate", "(I)I"⟩, 19) := ⟨⟨by decide +kernel, by decide +kernel⟩, List.mem_of_getElem? (i := 846) (by decide +kernel), List.mem_of_getElem? (i := 1001) (by decide +kernel), List.mem_of_getElem? (i := 1002) (by decide +kernel)⟩
theorem lw_p34 : lw_okq (⟨"FutureWishesModel", "lengthOf", "(I)I"⟩, 19) := ⟨⟨by decide +kernel, by decide +kernel⟩, List.mem_of_getElem? (i := 846) (by decide +kernel), List.mem_of_getElem? (i := 1005) (by decide +kernel), List.mem_of_getElem? (i := 1006) (by decide +kernel)⟩
theorem lw_p35 : lw_okq (⟨"FutureWishesModel", "signAt", "(II)I"⟩, 19) := ⟨⟨by decide +kernel, by decide +kernel⟩, List.mem_of_getElem? (i := 846) (by decide +kernel), List.mem_of_getElem? (i := 1009) (by decide +kernel), List.mem_of_getElem? (i := 1010) (by decide +kernel)⟩
theorem lw_p36 : lw_okq (⟨"FutureWishesModel", "toldWorld", "(II)I"⟩, 19) := ⟨⟨by decide +kernel, by decide +kernel⟩, List.mem_of_getElem? (i := 846) (by decide +kernel), List.mem_of_getElem? (i := 1021) (by decide +kernel), List.mem_of_getElem? (i := 1022) (by decide +kernel)⟩
theorem lw_p37 : lw_okq (⟨"FutureWishesModel", "into", "(I)I"⟩, 19) := ⟨⟨by decide +kernel, by decide +kernel⟩, List.mem_of_getElem? (i := 846) (by decide +kernel), List.mem_of_getElem? (i := 1025) (by decide +kernel), List.mem_of_getElem? (i := 1026) (by decide +kernel)⟩
theorem lw_p38 : lw_okq (⟨"FutureWishesModel", "live", "()I"⟩, 19) := ⟨⟨by decide +kernel, by decide +kernel⟩, List.mem_of_getElem? (i := 846) (by decide +kernel), List.mem_of_getElem? (i := 1029) (by decide +kernel), List.mem_of_getElem? (i := 1030) (by decide +kernel)⟩
theorem lw_p39 : lw_okq (⟨"FutureWishesModel", "all", "()I"⟩, 19) := ⟨⟨by decide +kernel, by decide +kernel⟩, List.mem_of_getElem? (i := 846) (by decide +kernel), List.mem_of_getElem? (i := 1033) (by decide +kernel), List.mem_of_getElem? (i := 1034) (by decide +kernel)⟩
theorem lw_p40 : lw_okq (⟨"FutureWishesModel", "stays", "(I)I"⟩, 19) := ⟨⟨by decide +kernel, by decide +kernel⟩, List.mem_of_getElem? (i := 846) (by decide +kernel), List.mem_of_getElem? (i := 1037) (by decide +kernel), List.mem_of_getElem? (i := 1038) (by decide +kernel)⟩
theorem lw_p41 : lw_okq (⟨"FutureWishesModel", "goals", "(I)I"⟩, 19) := ⟨⟨by decide +kernel, by decide +kernel⟩, List.mem_of_getElem? (i := 846) (by decide +kernel), List.mem_of_getElem? (i := 1041) (by decide +kernel), List.mem_of_getElem? (i := 1042) (by decide +kernel)⟩
theorem lw_p42 : lw_okq (⟨"FutureWishesModel", "withLetter", "(I)I"⟩, 19) := ⟨⟨by decide +kernel, by decide +kernel⟩, List.mem_of_getElem? (i := 846) (by decide +kernel), List.mem_of_getElem? (i := 1045) (by decide +kernel), List.mem_of_getElem? (i := 1046) (by decide +kernel)⟩
theorem lw_p43 : lw_okq (⟨"FutureWishesModel", "wishesAt", "(I)I"⟩, 19) := ⟨⟨by decide +kernel, by decide +kernel⟩, List.mem_of_getElem? (i := 846) (by decide +kernel), List.mem_of_getElem? (i := 1049) (by decide +kernel), List.mem_of_getElem? (i := 1050) (by decide +kernel)⟩
theorem lw_p44 : lw_okq (⟨"FutureWishesModel", "holds", "(I)I"⟩, 19) := ⟨⟨by decide +kernel, by decide +kernel⟩, List.mem_of_getElem? (i := 846) (by decide +kernel), List.mem_of_getElem? (i := 1053) (by decide +kernel), List.mem_of_getElem? (i := 1054) (by decide +kernel)⟩
theorem lw_p45 : lw_okq (⟨"FutureWishesModel", "lay", "(I)V"⟩, 19) := ⟨⟨by decide +kernel, by decide +kernel⟩, List.mem_of_getElem? (i := 846) (by decide +kernel), List.mem_of_getElem? (i := 1057) (by decide +kernel), List.mem_of_getElem? (i := 1058) (by decide +kernel)⟩
theorem lw_p46 : lw_okq (⟨"FutureWishesModel", "layWays", "(II)V"⟩, 19) := ⟨⟨by decide +kernel, by decide +kernel⟩, List.mem_of_getElem? (i := 846) (by decide +kernel), List.mem_of_getElem? (i := 1061) (by decide +kernel), List.mem_of_getElem? (i := 1062) (by decide +kernel)⟩
theorem lw_p47 : lw_okq (⟨"FutureWishesModel", "some", "(III)I"⟩, 19) := ⟨⟨by decide +kernel, by decide +kernel⟩, List.mem_of_getElem? (i := 846) (by decide +kernel), List.mem_of_getElem? (i := 1065) (by decide +kernel), List.mem_of_getElem? (i := 1066) (by decide +kernel)⟩
def lw_privs_3 : List (MethodName × Nat) := [(⟨"FutureWishesModel", "isWhole", "()Z"⟩, 19), (⟨"FutureWishesModel", "whyNotNegate", "(I)I"⟩, 19), (⟨"FutureWishesModel", "lengthOf", "(I)I"⟩, 19), (⟨"FutureWishesModel", "signAt", "(II)I"⟩, 19), (⟨"FutureWishesModel", "toldWorld", "(II)I"⟩, 19), (⟨"FutureWishesModel", "into", "(I)I"⟩, 19), (⟨"FutureWishesModel", "live", "()I"⟩, 19), (⟨"FutureWishesModel", "all", "()I"⟩, 19), (⟨"FutureWishesModel", "stays", "(I)I"⟩, 19), (⟨"FutureWishesModel", "goals", "(I)I"⟩, 19), (⟨"FutureWishesModel", "withLetter", "(I)I"⟩, 19), (⟨"FutureWishesModel", "wishesAt", "(I)I"⟩, 19), (⟨"FutureWishesModel", "holds", "(I)I"⟩, 19), (⟨"FutureWishesModel", "lay", "(I)V"⟩, 19), (⟨"FutureWishesModel", "layWays", "(II)V"⟩, 19), (⟨"FutureWishesModel", "some", "(III)I"⟩, 19)]
theorem lw_r3 : ∀ q ∈ lw_privs_3, lw_okq q := List.forall_mem_cons.mpr ⟨lw_p32, List.forall_mem_cons.mpr ⟨lw_p33, List.forall_mem_cons.mpr ⟨lw_p34, List.forall_mem_cons.mpr ⟨lw_p35, List.forall_mem_cons.mpr ⟨lw_p36, List.forall_mem_cons.mpr ⟨lw_p37, List.forall_mem_cons.mpr ⟨lw_p38, List.forall_mem_cons.mpr ⟨lw_p39, List.forall_mem_cons.mpr ⟨lw_p40, List.forall_mem_cons.mpr ⟨lw_p41, List.forall_mem_cons.mpr ⟨lw_p42, List.forall_mem_cons.mpr ⟨lw_p43, List.forall_mem_cons.mpr ⟨lw_p44, List.forall_mem_cons.mpr ⟨lw_p45, List.forall_mem_cons.mpr ⟨lw_p46, List.forall_mem_cons.mpr ⟨lw_p47, fun _ h => absurd h List.not_mem_nil⟩⟩⟩⟩⟩⟩⟩⟩⟩⟩⟩⟩⟩⟩⟩⟩
theorem lw_p48 : lw_okq (⟨"FutureWishesModel", "comes", "(II)I"⟩, 19) := ⟨⟨by decide +kernel, by decide +kernel⟩, List.mem_of_getElem? (i := 846) (by decide +kernel), List.mem_of_getElem? (i := 1069) (by decide +kernel), List.mem_of_getElem? (i := 1070) (by decide +kernel)⟩
theorem lw_p49 : lw_okq (⟨"FutureWishesModel", "every", "(III)I"⟩, 19) := ⟨⟨by decide +kernel, by decide +kernel⟩, List.mem_of_getElem? (i := 846) (by decide +kernel), List.mem_of_getElem? (i := 1073) (by decide +kernel), List.mem_of_getElem? (i := 1074) (by decide +kernel)⟩
theorem lw_p50 : lw_okq (⟨"FutureWishesModel", "layBoth", "(II)V"⟩, 19) := ⟨⟨by decide +kernel, by decide +kernel⟩, List.mem_of_getElem? (i := 846) (by decide +kernel), List.mem_of_getElem? (i := 1077) (by decide +kernel), List.mem_of_getElem? (i := 1078) (by decide +kernel)⟩
theorem lw_p51 : lw_okq (⟨"FutureWishesModel", "toldWish", "(II)I"⟩, 19) := ⟨⟨by decide +kernel, by decide +kernel⟩, List.mem_of_getElem? (i := 846) (by decide +kernel), List.mem_of_getElem? (i := 1085) (by decide +kernel), List.mem_of_getElem? (i := 1086) (by decide +kernel)⟩
theorem lw_p52 : lw_okq (⟨"FutureWishesModel", "allRounds", "(I)I"⟩, 19) := ⟨⟨by decide +kernel, by decide +kernel⟩, List.mem_of_getElem? (i := 846) (by decide +kernel), List.mem_of_getElem? (i := 1089) (by decide +kernel), List.mem_of_getElem? (i := 1090) (by decide +kernel)⟩
theorem lw_p53 : lw_okq (⟨"FutureWishesModel", "toldSign", "(III)I"⟩, 19) := ⟨⟨by decide +kernel, by decide +kernel⟩, List.mem_of_getElem? (i := 846) (by decide +kernel), List.mem_of_getElem? (i := 1097) (by decide +kernel), List.mem_of_getElem? (i := 1098) (by decide +kernel)⟩
theorem lw_p54 : lw_okq (⟨"FutureWishesModel", "witnessAt", "(III)I"⟩, 19) := ⟨⟨by decide +kernel, by decide +kernel⟩, List.mem_of_getElem? (i := 846) (by decide +kernel), List.mem_of_getElem? (i := 1105) (by decide +kernel), List.mem_of_getElem? (i := 1106) (by decide +kernel)⟩
theorem lw_p55 : lw_okq (⟨"FutureWishesModel", "layWitness", "(II)V"⟩, 19) := ⟨⟨by decide +kernel, by decide +kernel⟩, List.mem_of_getElem? (i := 846) (by decide +kernel), List.mem_of_getElem? (i := 1109) (by decide +kernel), List.mem_of_getElem? (i := 1110) (by decide +kernel)⟩
theorem lw_p56 : lw_okq (⟨"FutureWishesModel", "laySome", "(IIII)V"⟩, 19) := ⟨⟨by decide +kernel, by decide +kernel⟩, List.mem_of_getElem? (i := 846) (by decide +kernel), List.mem_of_getElem? (i := 1113) (by decide +kernel), List.mem_of_getElem? (i := 1114) (by decide +kernel)⟩
theorem lw_p57 : lw_okq (⟨"FutureWishesModel", "layNext", "(II)V"⟩, 19) := ⟨⟨by decide +kernel, by decide +kernel⟩, List.mem_of_getElem? (i := 846) (by decide +kernel), List.mem_of_getElem? (i := 1117) (by decide +kernel), List.mem_of_getElem? (i := 1118) (by decide +kernel)⟩
theorem lw_p58 : lw_okq (⟨"FutureWishesModel", "goesTo", "(I)V"⟩, 19) := ⟨⟨by decide +kernel, by decide +kernel⟩, List.mem_of_getElem? (i := 846) (by decide +kernel), List.mem_of_getElem? (i := 1121) (by decide +kernel), List.mem_of_getElem? (i := 1122) (by decide +kernel)⟩
theorem lw_p59 : lw_okq (⟨"FutureWishesModel", "layComing", "(III)V"⟩, 19) := ⟨⟨by decide +kernel, by decide +kernel⟩, List.mem_of_getElem? (i := 846) (by decide +kernel), List.mem_of_getElem? (i := 1125) (by decide +kernel), List.mem_of_getElem? (i := 1126) (by decide +kernel)⟩
theorem lw_p60 : lw_okq (⟨"FutureWishesModel", "layFar", "(II)V"⟩, 19) := ⟨⟨by decide +kernel, by decide +kernel⟩, List.mem_of_getElem? (i := 846) (by decide +kernel), List.mem_of_getElem? (i := 1129) (by decide +kernel), List.mem_of_getElem? (i := 1130) (by decide +kernel)⟩
theorem lw_p61 : lw_okq (⟨"FutureWishesModel", "nextOf", "(II)I"⟩, 19) := ⟨⟨by decide +kernel, by decide +kernel⟩, List.mem_of_getElem? (i := 846) (by decide +kernel), List.mem_of_getElem? (i := 1133) (by decide +kernel), List.mem_of_getElem? (i := 1134) (by decide +kernel)⟩
theorem lw_p62 : lw_okq (⟨"FutureWishesModel", "layStaying", "(II)V"⟩, 19) := ⟨⟨by decide +kernel, by decide +kernel⟩, List.mem_of_getElem? (i := 846) (by decide +kernel), List.mem_of_getElem? (i := 1137) (by decide +kernel), List.mem_of_getElem? (i := 1138) (by decide +kernel)⟩
theorem lw_p63 : lw_okq (⟨"FutureWishesModel", "layAgainst", "(IIII)V"⟩, 19) := ⟨⟨by decide +kernel, by decide +kernel⟩, List.mem_of_getElem? (i := 846) (by decide +kernel), List.mem_of_getElem? (i := 1141) (by decide +kernel), List.mem_of_getElem? (i := 1142) (by decide +kernel)⟩
def lw_privs_4 : List (MethodName × Nat) := [(⟨"FutureWishesModel", "comes", "(II)I"⟩, 19), (⟨"FutureWishesModel", "every", "(III)I"⟩, 19), (⟨"FutureWishesModel", "layBoth", "(II)V"⟩, 19), (⟨"FutureWishesModel", "toldWish", "(II)I"⟩, 19), (⟨"FutureWishesModel", "allRounds", "(I)I"⟩, 19), (⟨"FutureWishesModel", "toldSign", "(III)I"⟩, 19), (⟨"FutureWishesModel", "witnessAt", "(III)I"⟩, 19), (⟨"FutureWishesModel", "layWitness", "(II)V"⟩, 19), (⟨"FutureWishesModel", "laySome", "(IIII)V"⟩, 19), (⟨"FutureWishesModel", "layNext", "(II)V"⟩, 19), (⟨"FutureWishesModel", "goesTo", "(I)V"⟩, 19), (⟨"FutureWishesModel", "layComing", "(III)V"⟩, 19), (⟨"FutureWishesModel", "layFar", "(II)V"⟩, 19), (⟨"FutureWishesModel", "nextOf", "(II)I"⟩, 19), (⟨"FutureWishesModel", "layStaying", "(II)V"⟩, 19), (⟨"FutureWishesModel", "layAgainst", "(IIII)V"⟩, 19)]
theorem lw_r4 : ∀ q ∈ lw_privs_4, lw_okq q := List.forall_mem_cons.mpr ⟨lw_p48, List.forall_mem_cons.mpr ⟨lw_p49, List.forall_mem_cons.mpr ⟨lw_p50, List.forall_mem_cons.mpr ⟨lw_p51, List.forall_mem_cons.mpr ⟨lw_p52, List.forall_mem_cons.mpr ⟨lw_p53, List.forall_mem_cons.mpr ⟨lw_p54, List.forall_mem_cons.mpr ⟨lw_p55, List.forall_mem_cons.mpr ⟨lw_p56, List.forall_mem_cons.mpr ⟨lw_p57, List.forall_mem_cons.mpr ⟨lw_p58, List.forall_mem_cons.mpr ⟨lw_p59, List.forall_mem_cons.mpr ⟨lw_p60, List.forall_mem_cons.mpr ⟨lw_p61, List.forall_mem_cons.mpr ⟨lw_p62, List.forall_mem_cons.mpr ⟨lw_p63, fun _ h => absurd h List.not_mem_nil⟩⟩⟩⟩⟩⟩⟩⟩⟩⟩⟩⟩⟩⟩⟩⟩
theorem lw_p64 : lw_okq (⟨"FutureWishesModel", "compared", "(II)I"⟩, 19) := ⟨⟨by decide +kernel, by decide +kernel⟩, List.mem_of_getElem? (i := 846) (by decide +kernel), List.mem_of_getElem? (i := 1149) (by decide +kernel), List.mem_of_getElem? (i := 1150) (by decide +kernel)⟩
theorem lw_p65 : lw_okq (⟨"FutureWishesModel", "counted", "(I)I"⟩, 19) := ⟨⟨by decide +kernel, by decide +kernel⟩, List.mem_of_getElem? (i := 846) (by decide +kernel), List.mem_of_getElem? (i := 1157) (by decide +kernel), List.mem_of_getElem? (i := 1158) (by decide +kernel)⟩
theorem lw_p66 : lw_okq (⟨"FutureWishesModel", "stepless", "()I"⟩, 19) := ⟨⟨by decide +kernel, by decide +kernel⟩, List.mem_of_getElem? (i := 846) (by decide +kernel), List.mem_of_getElem? (i := 1161) (by decide +kernel), List.mem_of_getElem? (i := 1162) (by decide +kernel)⟩
theorem lw_p67 : lw_okq (⟨"FutureWishesModel", "wishMany", "()I"⟩, 19) := ⟨⟨by decide +kernel, by decide +kernel⟩, List.mem_of_getElem? (i := 846) (by decide +kernel), List.mem_of_getElem? (i := 1165) (by decide +kernel), List.mem_of_getElem? (i := 1166) (by decide +kernel)⟩
theorem lw_p68 : lw_okq (⟨"FutureWishesModel", "signMany", "()I"⟩, 19) := ⟨⟨by decide +kernel, by decide +kernel⟩, List.mem_of_getElem? (i := 846) (by decide +kernel), List.mem_of_getElem? (i := 1169) (by decide +kernel), List.mem_of_getElem? (i := 1170) (by decide +kernel)⟩
theorem lw_p69 : lw_okq (⟨"FutureWishesModel", "allHold", "()I"⟩, 19) := ⟨⟨by decide +kernel, by decide +kernel⟩, List.mem_of_getElem? (i := 846) (by decide +kernel), List.mem_of_getElem? (i := 1173) (by decide +kernel), List.mem_of_getElem? (i := 1174) (by decide +kernel)⟩
theorem lw_p70 : lw_okq (⟨"FutureWishesModel", "fixed", "(III)I"⟩, 19) := ⟨⟨by decide +kernel, by decide +kernel⟩, List.mem_of_getElem? (i := 846) (by decide +kernel), List.mem_of_getElem? (i := 1181) (by decide +kernel), List.mem_of_getElem? (i := 1182) (by decide +kernel)⟩
theorem lw_p71 : lw_okq (⟨"FutureWishesModel", "tryFix", "(IIIII)V"⟩, 19) := ⟨⟨by decide +kernel, by decide +kernel⟩, List.mem_of_getElem? (i := 846) (by decide +kernel), List.mem_of_getElem? (i := 1185) (by decide +kernel), List.mem_of_getElem? (i := 1186) (by decide +kernel)⟩
theorem lw_p72 : lw_okq (⟨"FutureWishesModel", "byFair", "(II)I"⟩, 19) := ⟨⟨by decide +kernel, by decide +kernel⟩, List.mem_of_getElem? (i := 846) (by decide +kernel), List.mem_of_getElem? (i := 1193) (by decide +kernel), List.mem_of_getElem? (i := 1194) (by decide +kernel)⟩
theorem lw_p73 : lw_okq (⟨"FutureWishesModel", "share", "()D"⟩, 19) := ⟨⟨by decide +kernel, by decide +kernel⟩, List.mem_of_getElem? (i := 846) (by decide +kernel), List.mem_of_getElem? (i := 1201) (by decide +kernel), List.mem_of_getElem? (i := 1202) (by decide +kernel)⟩
theorem lw_p74 : lw_okq (⟨"FutureWishesModel", "mix", "(J)V"⟩, 19) := ⟨⟨by decide +kernel, by decide +kernel⟩, List.mem_of_getElem? (i := 846) (by decide +kernel), List.mem_of_getElem? (i := 1210) (by decide +kernel), List.mem_of_getElem? (i := 1211) (by decide +kernel)⟩
theorem lw_p75 : lw_okq (⟨"FutureWishesModel", "mixWish", "(I)V"⟩, 19) := ⟨⟨by decide +kernel, by decide +kernel⟩, List.mem_of_getElem? (i := 846) (by decide +kernel), List.mem_of_getElem? (i := 1215) (by decide +kernel), List.mem_of_getElem? (i := 1216) (by decide +kernel)⟩
def lw_privs_5 : List (MethodName × Nat) := [(⟨"FutureWishesModel", "compared", "(II)I"⟩, 19), (⟨"FutureWishesModel", "counted", "(I)I"⟩, 19), (⟨"FutureWishesModel", "stepless", "()I"⟩, 19), (⟨"FutureWishesModel", "wishMany", "()I"⟩, 19), (⟨"FutureWishesModel", "signMany", "()I"⟩, 19), (⟨"FutureWishesModel", "allHold", "()I"⟩, 19), (⟨"FutureWishesModel", "fixed", "(III)I"⟩, 19), (⟨"FutureWishesModel", "tryFix", "(IIIII)V"⟩, 19), (⟨"FutureWishesModel", "byFair", "(II)I"⟩, 19), (⟨"FutureWishesModel", "share", "()D"⟩, 19), (⟨"FutureWishesModel", "mix", "(J)V"⟩, 19), (⟨"FutureWishesModel", "mixWish", "(I)V"⟩, 19)]
theorem lw_r5 : ∀ q ∈ lw_privs_5, lw_okq q := List.forall_mem_cons.mpr ⟨lw_p64, List.forall_mem_cons.mpr ⟨lw_p65, List.forall_mem_cons.mpr ⟨lw_p66, List.forall_mem_cons.mpr ⟨lw_p67, List.forall_mem_cons.mpr ⟨lw_p68, List.forall_mem_cons.mpr ⟨lw_p69, List.forall_mem_cons.mpr ⟨lw_p70, List.forall_mem_cons.mpr ⟨lw_p71, List.forall_mem_cons.mpr ⟨lw_p72, List.forall_mem_cons.mpr ⟨lw_p73, List.forall_mem_cons.mpr ⟨lw_p74, List.forall_mem_cons.mpr ⟨lw_p75, fun _ h => absurd h List.not_mem_nil⟩⟩⟩⟩⟩⟩⟩⟩⟩⟩⟩⟩
def lw_privs : List (MethodName × Nat) := lw_privs_1 ++ (lw_privs_2 ++ (lw_privs_3 ++ (lw_privs_4 ++ (lw_privs_5))))
def lw_tbl : List Cond := k2_sels lw_privs ++ tables_1
theorem lw_privs_ok : ∀ q ∈ lw_privs, lw_okq q := by
  show ∀ q ∈ lw_privs_1 ++ (lw_privs_2 ++ (lw_privs_3 ++ (lw_privs_4 ++ (lw_privs_5)))), lw_okq q
  exact List.forall_mem_append.mpr ⟨lw_r1, List.forall_mem_append.mpr ⟨lw_r2, List.forall_mem_append.mpr ⟨lw_r3, List.forall_mem_append.mpr ⟨lw_r4, lw_r5⟩⟩⟩⟩
/-- the streams that the claim lets the run draw from -/
abbrev lw_cs : List Choice := [Jvm.Choice.named "NaN.bits"]
theorem lw_bits : nanBits ∈ lw_cs := by first | decide | exact List.mem_cons_self | simp [lw_cs, nanBits]
end
section
/-! ===== BEGIN words of one list among another's, by their places ===== -/
theorem goodIn_r {big : List Cond} (ws : List Cond) (ps : List Nat) (hp : ws = ps.filterMap (fun i => big[i]?)) (h : ws.all goodWord = true) : GoodIn big ws := by
  intro w hw
  have h1 := List.all_eq_true.mp h w hw
  rw [hp] at hw
  obtain ⟨i, -, hi⟩ := List.mem_filterMap.mp hw
  have hm : w ∈ big := by first | exact List.mem_of_getElem? hi | exact List.getElem?_mem hi
  exact ⟨hm, good_of_word h1⟩
theorem goodIn_app {big a b : List Cond} (ha : GoodIn big a) (hb : GoodIn big b) : GoodIn big (a ++ b) := fun w h => (List.mem_append.mp h).elim (ha w) (hb w)
theorem goodIn_ca {big a b : List Cond} {c : Cond} (ha : GoodIn big (c :: a)) (hb : GoodIn big b) : GoodIn big (c :: (a ++ b)) := fun w h => (List.mem_cons.mp h).elim (fun e => ha w (List.mem_cons.mpr (Or.inl e))) (fun h => (List.mem_append.mp h).elim (fun h => ha w (List.mem_cons.mpr (Or.inr h))) (hb w))
theorem goodIn_sub {big ws : List Cond} (hm : ∀ w ∈ ws, w ∈ big) (h : ws.all goodWord = true) : GoodIn big ws := fun w hw => ⟨hm w hw, good_of_word (List.all_eq_true.mp h w hw)⟩
/-! ===== END ===== -/

/-! ===== BEGIN exceptions that leave a method, and their catching by the caller (launches without stack traces) ===== -/
section VXA
/-! The laws vx_back, vx_callV, vx_callS, vx_callSW, vx_throw0, vx_throwS follow proofs of the library, with one case more: JvmDerived/Free/Laws.lean (Back.of_free), Shelf42/LK1.lean (callV, callS), Shelf/KitTraced.lean (throwNew0V, throwNewS). -/
/-- where a method has thrown q: the class by its name, the cell, what was written, the world -/
def vx_T (XC : String → State → State → Prop) (st : State) (q : Addr) (t : State) (mc ms : Nat) (free : Addr → Prop) : Prop :=
  ∃ (E : String) (ce : Cell) (L : List Loc), XC E st t ∧ t.heap[q]? = some ce ∧ ce.vm = .none ∧ st.vm.findClass E = some ce.cls ∧ st.WarmedH t.vm ∧ st.sameButNew ({ t with vm := st.vm } : State) L mc ms ∧ ∀ z ∈ L, free z.base
def vx_Q (Qc : Array Value → State → Outcome → State → Prop) (XC : String → State → State → Prop) (mc ms : Nat) (free : Addr → Prop) : Array Value → State → Outcome → State → Prop := fun a st o t =>
  (Qc a st o t ∧ ∃ L, FrameEnd st o t L mc ms ∧ ∀ q ∈ L, free q.base) ∨ ∃ q, o = .threw q ∧ vx_T XC st q t mc ms free
/-- a callee that returns or throws -/
def vx_Met (l : Launch) (y : MethodName) (ws : List Cond) (rm : Room) (Pc : Array Value → State → Prop) (Qc : Array Value → State → Outcome → State → Prop) (XC : String → State → State → Prop) (mc ms : Nat) (free : Addr → Prop) : Prop :=
  MetFree l y (headSpec ws rm) Pc (fun _ _ _ _ _ => True) (vx_Q Qc XC mc ms free)
def vx_Post (XC : String → State → State → Prop) (mc ms : Nat) (free : Addr → Prop) : Pt → Array Value → Addr → Pt → Prop := fun A a q B =>
  ∃ (g : JFrame) (mk : MethodId) (t : State) (L : List Loc) (E : String) (ce : Cell), B.U.heap = t.heap ∧ B.U.vm = t.vm ∧ XC E (A.U.calling g mk a) t ∧ t.heap[q]? = some ce ∧ ce.vm = .none ∧ A.U.vm.findClass E = some ce.cls ∧ B.locs = A.locs ++ L ∧ (∀ z ∈ L, free z.base) ∧ B.cells = A.cells + mc ∧ B.slots = A.slots + ms
def vx_Back (l : Launch) (R : Room) (p : Program) (e : Env) (below : List Frame) (s : State) (sargs : Array Value) (y : MethodName) (len W9 : Nat)
    (Pre : Pt → Array Value → Prop) (Post : Pt → Array Value → Option Value → Pt → Prop) (PostX : Pt → Array Value → Addr → Pt → Prop) : Prop :=
  ∀ (m : MethodId) (meth : Method) (c : Code) (A : Pt) (g : JFrame) (ig : Instr) (mk : MethodId) (a : Array Value),
    Stand p l e R s m sargs below meth c A.U A.locs A.cells A.slots → g.method = m → g.locals.size = c.maxLocals → decode c.code g.pc = .ok (ig, len) →
    2 * g.monitorRoom + (g.stack.map fun v => v.category).sum ≤ W9 → A.U.methodNamed? y = some mk → Pre A a →
    (∃ (v : Option Value) (B : Pt), Stand p l e R s m sargs below meth c B.U B.locs B.cells B.slots ∧ Post A a v B ∧
      Steps p.tables e below (doInvoke e (A.U.setTop g) [] mk a).1 (B.U.setTop { g with pc := g.pc + len, stack := v.toList ++ g.stack })) ∨
    (∃ (q : Addr) (B : Pt), Stand p l e R s m sargs below meth c B.U B.locs B.cells B.slots ∧ PostX A a q B ∧
      Steps p.tables e below (doInvoke e (A.U.setTop g) [] mk a).1 ((B.U.setTop g).pushFrame (.throwing q)))
section Payer
variable {l : Launch} {R : Room} {p : Program} {e : Env} {below : List Frame} {s : State} {sargs : Array Value} {y : MethodName} {len W9 : Nat}
theorem vx_back {ws : List Cond} {rm : Room} {Pc : Array Value → State → Prop} {Qc : Array Value → State → Outcome → State → Prop} {XC : String → State → State → Prop} {mc ms : Nat} {free : Addr → Prop} {bytes : ByteArray} {maxL : Nat} {ret : Option FieldType}
    (hM : vx_Met l y ws rm Pc Qc XC mc ms free) (hblind : FrameBlind Pc) (hrc : rm.cells = mc) (hrs : rm.slots = ms)
    (hframes : rm.frames + 1 ≤ R.frames) (hlocals : W9 + (maxL + 11) + rm.locals ≤ R.locals)
    (hws : ∀ w ∈ ws, ∀ a' U, s.WarmedH U.vm → w.before a' U = true) (hcode : Cond.code y bytes maxL ret ∈ ws) (hinit : ∀ a' U, s.WarmedH U.vm → (Cond.initialized y.cls).before a' U = true) :
    vx_Back l R p e below s sargs y len W9 (PreOf R mc ms Pc) (PostOf Qc mc ms free) (vx_Post XC mc ms free) := by
  intro m meth c A g ig mk a X hg hsize hdg hW hn hp
  have h1 : (headSpec ws rm).pre.before a A.U = true := atoms_intro fun w hw => hws w hw _ _ X.warmed
  have h2 : (Cond.code y bytes maxL ret).before a A.U = true := hws _ hcode _ _ X.warmed
  have h3 : (Cond.initialized y.cls).before a A.U = true := hinit _ _ X.warmed
  have h4 : A.cells + (headSpec ws rm).room.cells ≤ R.cells := by rw [show (headSpec ws rm).room.cells = mc from hrc]; exact hp.1
  have h5 : A.slots + (headSpec ws rm).room.slots ≤ R.slots := by rw [show (headSpec ws rm).room.slots = ms from hrs]; exact hp.2.1
  have hPc : Pc a (A.U.calling g mk a) := hblind _ _ _ _ hp.2.2
  obtain ⟨U, Ls, c0, s0⟩ := A
  dsimp only [Pt.U, Pt.locs, Pt.cells, Pt.slots] at h1 h2 h3 h4 h5 X hn hPc ⊢
  obtain ⟨methY, cY, hmY, hcY, -, hlY, -, -, -, -⟩ := Cond.code_spec hn h2
  obtain ⟨kY, hkY, -⟩ := className_of_methodNamed hn
  have hinitY : kY.init = .initialized := Cond.initialized_spec (findClass_of_methodNamed hn) hkY h3
  have h : At U g.method c below := by rw [hg]; exact X.here
  have hlocals9 : W9 + (maxL + 11) + (headSpec ws rm).room.locals ≤ R.locals := hlocals
  have happ : (headSpec ws rm).appliesLoose y e.platform (U.calling g mk a) = true :=
    Spec.appliesLoose_calling (g := g) h hdg hn hkY hinitY
      (X.room_calling (g := g) (R' := (headSpec ws rm).room) hsize hmY hcY hframes (by rw [hlY]; omega) h4 h5) h1
  obtain ⟨mid, hmid⟩ := h.above
  have hfr : (U.setTop g).frames = (.java g :: mid) ++ below := by rw [State.frames_setTop' g h.top, hmid]; rfl
  obtain ⟨o, s₂, hsteps, -, hend, hq⟩ := Steps.callFree hM p X.admits X.cas X.clock (acts := []) hfr happ hPc trivial
  have hq' : vx_Q Qc XC mc ms free a (U.calling g mk a) o s₂ := hq
  rw [State.frames_setTop' g h.top] at hend
  obtain ⟨g₀, hg0⟩ := Option.isSome_iff_exists.mp h.top
  obtain ⟨r, hr⟩ := State.topJava?_eq_some.mp hg0
  have hr' : (({ U with heap := s₂.heap, slotsUsed := s₂.slotsUsed } : State).setVm s₂.vm).frames = .java g₀ :: r := hr
  rcases hq' with ⟨hqc, L, hfe, hL⟩ | ⟨q, rfl, E, ce, L, hx, hce, hcv, hcl, hW₂, hsm, hL⟩
  · obtain ⟨⟨v, rfl⟩, hW₂, e2, q2, q3, q4, q5, q6⟩ := id hfe
    have e3 : s₂ = ({ (U.calling g mk a).setFrames s₂.frames with heap := s₂.heap, slotsUsed := s₂.slotsUsed } : State).setVm s₂.vm := by
      have : s₂ = ({ s₂ with vm := (U.calling g mk a).vm } : State).setVm s₂.vm := rfl
      rw [e2] at this
      exact this
    obtain ⟨c₂, i₂, len₂, hc₂, hd₂, hf₂⟩ := hend
    have hW' : U.WarmedH s₂.vm := hW₂
    have hcc : c₂ = c := by
      have h1 : s₂.code? g.method = U.code? g.method := by
        rw [State.code?_eq, State.code?_eq, hW'.alike.method?]
      exact Option.some.inj (hc₂.symm.trans (h1.trans h.code))
    subst hcc
    have hlen : len₂ = len := by rw [hdg] at hd₂; cases hd₂; rfl
    subst hlen
    have hs₂ : s₂ = (({ U with heap := s₂.heap, slotsUsed := s₂.slotsUsed } : State).setVm s₂.vm).setTop { g with pc := g.pc + len₂, stack := v.toList ++ g.stack } := by
      refine e3.trans ?_
      rw [hf₂, State.calling_eq h.top, State.setFrames_setFrames, State.setTop_of_frames _ hr', hr]
      rfl
    have hsame : U.sameButNew ({ U with heap := s₂.heap, slotsUsed := s₂.slotsUsed } : State) L mc ms := by
      refine ⟨?_, q2, q3, q4, q5, q6⟩
      obtain ⟨t, ht, -⟩ := State.frames_cons hr
      show ({ U with heap := s₂.heap, slotsUsed := s₂.slotsUsed } : State) = { U.setFrames U.frames with heap := s₂.heap, slotsUsed := s₂.slotsUsed }
      rw [State.setFrames_self ht]
    subst hg
    refine Or.inl ⟨v, ⟨(({ U with heap := s₂.heap, slotsUsed := s₂.slotsUsed } : State).setVm s₂.vm), Ls ++ L, c0 + mc, s0 + ms⟩,
      ⟨X.admits, X.cas, X.clock, X.frames, X.room, X.hears, X.method, X.code, (X.here.setHeapUsed s₂.heap s₂.slotsUsed).setVm hW'.alike, X.tail, State.WarmedH.trans X.warmed hW', X.limits, X.bytes, X.same.trans (hsame.setVm s.vm)⟩,
      ⟨g, mk, s₂, L, rfl, rfl, hqc, rfl, hL, rfl, rfl⟩, ?_⟩
    show Steps p.tables e below _ ((({ U with heap := s₂.heap, slotsUsed := s₂.slotsUsed } : State).setVm s₂.vm).setTop { g with pc := g.pc + len₂, stack := v.toList ++ g.stack })
    rw [← hs₂]
    exact hsteps
  · obtain ⟨e2, q2, q3, q4, q5, q6⟩ := id hsm
    have e3 : s₂ = ({ (U.calling g mk a).setFrames s₂.frames with heap := s₂.heap, slotsUsed := s₂.slotsUsed } : State).setVm s₂.vm := by
      have : s₂ = ({ s₂ with vm := (U.calling g mk a).vm } : State).setVm s₂.vm := rfl
      rw [e2] at this
      exact this
    have hf₂ : s₂.frames = .throwing q :: .java g :: U.frames.tail := hend
    have hW' : U.WarmedH s₂.vm := hW₂
    have hs₂ : s₂ = ((({ U with heap := s₂.heap, slotsUsed := s₂.slotsUsed } : State).setVm s₂.vm).setTop g).pushFrame (.throwing q) := by
      refine e3.trans ?_
      rw [hf₂, State.calling_eq h.top, State.setFrames_setFrames, State.pushFrame, State.frames_setTop _ hr', State.setTop_of_frames _ hr', State.setFrames_setFrames, hr]
      rfl
    have hsame : U.sameButNew ({ U with heap := s₂.heap, slotsUsed := s₂.slotsUsed } : State) L mc ms := by
      refine ⟨?_, q2, q3, q4, q5, q6⟩
      obtain ⟨t, ht, -⟩ := State.frames_cons hr
      show ({ U with heap := s₂.heap, slotsUsed := s₂.slotsUsed } : State) = { U.setFrames U.frames with heap := s₂.heap, slotsUsed := s₂.slotsUsed }
      rw [State.setFrames_self ht]
    subst hg
    refine Or.inr ⟨q, ⟨(({ U with heap := s₂.heap, slotsUsed := s₂.slotsUsed } : State).setVm s₂.vm), Ls ++ L, c0 + mc, s0 + ms⟩,
      ⟨X.admits, X.cas, X.clock, X.frames, X.room, X.hears, X.method, X.code, (X.here.setHeapUsed s₂.heap s₂.slotsUsed).setVm hW'.alike, X.tail, State.WarmedH.trans X.warmed hW', X.limits, X.bytes, X.same.trans (hsame.setVm s.vm)⟩,
      ⟨g, mk, s₂, L, E, ce, rfl, rfl, hx, hce, hcv, hcl, rfl, hL, rfl, rfl⟩, ?_⟩
    show Steps p.tables e below _ (((({ U with heap := s₂.heap, slotsUsed := s₂.slotsUsed } : State).setVm s₂.vm).setTop g).pushFrame (.throwing q))
    rw [← hs₂]
    exact hsteps
end Payer
section Calls
variable {p : Program} {l : Launch} {e : Env} {R : Room} {s : State} {m : MethodId} {args : Array Value} {below : List Frame} {meth : Method} {c : Code} {T : State} {locs : List Loc} {cells slots : Nat}
theorem vx_callV (X : Stand p l e R s m args below meth c T locs cells slots) (hexec : p.tables.exec = Jvm.exec) {own C : String} {index : Nat} {y : MethodName} {bytes : ByteArray} {maxL : Nat} {ret : Option FieldType}
    (hown : s.vm.findClass own = some m.cls) (hlink : (Cond.methodLink own index y).before args s = true) (hinst : (Cond.instanceMethod y).before args s = true) (hsel : (Cond.selects C y y).before args s = true)
    (hcode : (Cond.code y bytes maxL ret).before args s = true) (hy : y.cls ≠ "java/lang/invoke/MethodHandle" ∧ y.cls ≠ "java/lang/invoke/VarHandle")
    {W9 : Nat} {Pre : Pt → Array Value → Prop} {Post : Pt → Array Value → Option Value → Pt → Prop} {PostX : Pt → Array Value → Addr → Pt → Prop} (hK : vx_Back l R p e below s args y 3 W9 Pre Post PostX)
    {b : Addr} {cellB : Cell} (hcell : T.heap[b]? = some cellB) (hobj : cellB.vm.isStatics = false) (hcls : s.vm.findClass C = some cellB.cls)
    {g : JFrame} (hg : g.method = m) (hsize : g.locals.size = c.maxLocals) {argsL rest : List Value} (hlen : ∀ sig, parseMethodDescriptor y.desc = some sig → argsL.length = sig.parameters.length)
    (hstack : g.stack = argsL.reverse ++ .ref b :: rest) (hW : 2 * g.monitorRoom + (rest.map fun v => v.category).sum ≤ W9) (hdg : decode c.code g.pc = .ok (.invokevirtual index, 3))
    (hpre : ∀ vm₁, s.WarmedH vm₁ → Pre ⟨T.setVm vm₁, locs, cells, slots⟩ (Value.ref b :: argsL).toArray) :
    (∃ (v : Option Value) (vm₁ : Vm) (B : Pt), s.WarmedH vm₁ ∧ Stand p l e R s m args below meth c B.U B.locs B.cells B.slots ∧ Post ⟨T.setVm vm₁, locs, cells, slots⟩ (Value.ref b :: argsL).toArray v B ∧
      ∀ target, Steps p.tables e below (B.U.setTop { g with pc := g.pc + 3, stack := v.toList ++ rest }) target → Steps p.tables e below (T.setTop g) target) ∨
    (∃ (q : Addr) (vm₁ : Vm) (B : Pt), s.WarmedH vm₁ ∧ Stand p l e R s m args below meth c B.U B.locs B.cells B.slots ∧ PostX ⟨T.setVm vm₁, locs, cells, slots⟩ (Value.ref b :: argsL).toArray q B ∧
      Steps p.tables e below (T.setTop g) ((B.U.setTop { g with stack := rest }).pushFrame (.throwing q))) := by
  obtain ⟨mk, methM, hnamed, hmethM, hstM, habM⟩ := Cond.instanceMethod_spec hinst
  obtain ⟨methM', cM, hmethM', -, -, -, -, -, -, hsigM⟩ := Cond.code_spec hnamed hcode
  cases hmethM.symm.trans hmethM'
  obtain ⟨c2, r2, m2, q1, q2, q3, q4, kP, hkP, hkPi⟩ := Cond.selects_spec hsel
  cases hcls.symm.trans q1
  cases (State.methodFound?_of_named hnamed hy).symm.trans q2
  cases hnamed.symm.trans q3
  have hselP : selectMethod e.platform s.vm cellB.cls mk = .method mk := by rw [Launch.admits_selectMethod X.admits]; exact q4
  obtain ⟨vm₁, X₁, hstep₁⟩ := X.invokevirtual hexec hown hlink hnamed hmethM hstM hkP hkPi hy (a := b) (cell := cellB) hcell
    (fun z h => by rw [h] at hobj; cases hobj) hselP hmethM habM hkP hkPi (g := g) hg (argsL := argsL) (rest := rest) (hlen _ hsigM) hstack hdg
  rcases hK m meth c ⟨T.setVm vm₁, locs, cells, slots⟩ { g with stack := rest } (.invokevirtual index) mk (Value.ref b :: argsL).toArray X₁ hg hsize hdg hW (X₁.named hnamed) (hpre vm₁ X₁.warmed) with ⟨v, B, X', hpost, hsteps⟩ | ⟨q, B, X', hpost, hsteps⟩
  · exact Or.inl ⟨v, vm₁, B, X₁.warmed, X', hpost, fun target h => hstep₁ _ fun acts => by rw [doInvoke_state]; exact hsteps.trans h⟩
  · exact Or.inr ⟨q, vm₁, B, X₁.warmed, X', hpost, hstep₁ _ fun acts => by rw [doInvoke_state]; exact hsteps⟩
theorem vx_callS (X : Stand p l e R s m args below meth c T locs cells slots) (hexec : p.tables.exec = Jvm.exec) {own : String} {index : Nat} {y : MethodName} {bytes : ByteArray} {maxL : Nat} {ret : Option FieldType}
    (hown : s.vm.findClass own = some m.cls) (hlink : (Cond.methodLink own index y).before args s = true) (hstat : (Cond.static y).before args s = true) (hinit : (Cond.initialized y.cls).before args s = true)
    (hcode : (Cond.code y bytes maxL ret).before args s = true) (hy : y.cls ≠ "java/lang/invoke/MethodHandle" ∧ y.cls ≠ "java/lang/invoke/VarHandle")
    {W9 : Nat} {Pre : Pt → Array Value → Prop} {Post : Pt → Array Value → Option Value → Pt → Prop} {PostX : Pt → Array Value → Addr → Pt → Prop} (hK : vx_Back l R p e below s args y 3 W9 Pre Post PostX)
    {g : JFrame} (hg : g.method = m) (hsize : g.locals.size = c.maxLocals) {argsL rest : List Value} (hlen : ∀ sig, parseMethodDescriptor y.desc = some sig → argsL.length = sig.parameters.length)
    (hstack : g.stack = argsL.reverse ++ rest) (hW : 2 * g.monitorRoom + (rest.map fun v => v.category).sum ≤ W9) (hdg : decode c.code g.pc = .ok (.invokestatic index, 3))
    (hpre : ∀ vm₁, s.WarmedH vm₁ → Pre ⟨T.setVm vm₁, locs, cells, slots⟩ argsL.toArray) :
    (∃ (v : Option Value) (vm₁ : Vm) (B : Pt), s.WarmedH vm₁ ∧ Stand p l e R s m args below meth c B.U B.locs B.cells B.slots ∧ Post ⟨T.setVm vm₁, locs, cells, slots⟩ argsL.toArray v B ∧
      ∀ target, Steps p.tables e below (B.U.setTop { g with pc := g.pc + 3, stack := v.toList ++ rest }) target → Steps p.tables e below (T.setTop g) target) ∨
    (∃ (q : Addr) (vm₁ : Vm) (B : Pt), s.WarmedH vm₁ ∧ Stand p l e R s m args below meth c B.U B.locs B.cells B.slots ∧ PostX ⟨T.setVm vm₁, locs, cells, slots⟩ argsL.toArray q B ∧
      Steps p.tables e below (T.setTop g) ((B.U.setTop { g with stack := rest }).pushFrame (.throwing q))) := by
  obtain ⟨mk, hnamed⟩ := Cond.code_named hcode
  obtain ⟨methM, cM, hmethM, -, -, -, -, -, -, hsigM⟩ := Cond.code_spec hnamed hcode
  have hstatic : methM.isStatic = true := Cond.static_spec hnamed hmethM hstat
  obtain ⟨kP, hkP, -⟩ := className_of_methodNamed hnamed
  have hinitP : kP.init = .initialized := Cond.initialized_spec (findClass_of_methodNamed hnamed) hkP hinit
  obtain ⟨vm₁, X₁, hstep₁⟩ := X.invokestatic hexec hown hlink hnamed hmethM hstatic hkP hinitP hy (g := g) hg (argsL := argsL) (rest := rest) (hlen _ hsigM) hstack hdg
  rcases hK m meth c ⟨T.setVm vm₁, locs, cells, slots⟩ { g with stack := rest } (.invokestatic index) mk argsL.toArray X₁ hg hsize hdg hW (X₁.named hnamed) (hpre vm₁ X₁.warmed) with ⟨v, B, X', hpost, hsteps⟩ | ⟨q, B, X', hpost, hsteps⟩
  · exact Or.inl ⟨v, vm₁, B, X₁.warmed, X', hpost, fun target h => hstep₁ _ fun acts => by rw [doInvoke_state]; exact hsteps.trans h⟩
  · exact Or.inr ⟨q, vm₁, B, X₁.warmed, X', hpost, hstep₁ _ fun acts => by rw [doInvoke_state]; exact hsteps⟩
end Calls
theorem vx_cls {s : State} {T : State} {vm₁ : Vm} {E : String} {k : ClassId} (hW : s.WarmedH vm₁) (h : (T.setVm vm₁).vm.findClass E = some k) : s.vm.findClass E = some k := by
  have h1 : vm₁.findClass E = some k := h
  rw [hW.alike.findClass] at h1
  exact h1
/-- the method's frame g, with q thrown over it -/
def vx_W (p : Program) (l : Launch) (e : Env) (R : Room) (s : State) (m : MethodId) (args : Array Value) (below : List Frame) (meth : Method) (c : Code) (H : Heap) (locs : List Loc) (cells slots : Nat) (Q : State → Prop) (g : JFrame) (q : Addr) : Prop :=
  ∀ T : State, T.heap = H → Stand p l e R s m args below meth c T locs cells slots → ∃ t, Steps p.tables e below ((T.setTop g).pushFrame (.throwing q)) t ∧ Q t
def vx_Run (p : Program) (l : Launch) (e : Env) (R : Room) (s : State) (m : MethodId) (args : Array Value) (below : List Frame) (meth : Method) (c : Code) (H : Heap) (locs : List Loc) (cells slots mc ms : Nat) (g : JFrame) (rest : List Value) (Qa : State → Outcome → State → Prop) (XC : String → State → State → Prop) (free : Addr → Prop) : Prop :=
  ∀ T : State, T.heap = H → Stand p l e R s m args below meth c T locs cells slots →
    (∃ (v : Option Value) (st₀ t T' : State) (L : List Loc), st₀.heap = H ∧ Stand p l e R s m args below meth c T' (locs ++ L) (cells + mc) (slots + ms) ∧ (∀ q ∈ L, free q.base) ∧ T'.heap = t.heap ∧ T'.vm = t.vm ∧ Qa st₀ (.returned v) t ∧
      Goes p e below T g T' { g with pc := g.pc + 3, stack := v.toList ++ rest }) ∨
    (∃ (q : Addr) (st₀ t T' : State) (L : List Loc) (E : String) (ce : Cell), st₀.heap = H ∧ Stand p l e R s m args below meth c T' (locs ++ L) (cells + mc) (slots + ms) ∧ (∀ z ∈ L, free z.base) ∧ T'.heap = t.heap ∧ T'.vm = t.vm ∧ XC E st₀ t ∧ t.heap[q]? = some ce ∧ ce.vm = .none ∧ s.vm.findClass E = some ce.cls ∧
      Steps p.tables e below (T.setTop g) ((T'.setTop { g with stack := rest }).pushFrame (.throwing q)))
def vx_X {S : Type} (px : S → Prop) (B : String → S → State → Prop) (A : Nat → Prop) : String → State → State → Prop := fun E st t => ∃ u : S, px u ∧ B E u t ∧ va_F A st t
section Runs
variable {p : Program} {l : Launch} {e : Env} {R : Room} {s : State} {m : MethodId} {args : Array Value} {below : List Frame} {meth : Method} {c : Code} {H : Heap} {locs : List Loc} {cells slots : Nat}
variable {y : MethodName} {bytes cc : ByteArray} {maxL nL mc ms n index : Nat} {ret : Option FieldType} {ws : List Cond} {rm : Room} {Pc : Array Value → State → Prop} {Qc : Array Value → State → Outcome → State → Prop} {XC : String → State → State → Prop} {free : Addr → Prop} {Ts : List Cond} {own C : String} {b : Addr} {As rest : List Value} {g : JFrame}
theorem vx_callBack (cb : CallB R s args own index y bytes maxL ret ws rm mc ms n) (hM : vx_Met l y ws rm Pc Qc XC mc ms free) (hbl : FrameBlind Pc) : vx_Back l R p e below s args y 3 8 (PreOf R mc ms Pc) (PostOf Qc mc ms free) (vx_Post XC mc ms free) := by
  obtain ⟨hrc, hrs, hfr, hlo, hws, hcw, -, hini, -⟩ := cb
  exact vx_back (bytes := bytes) (maxL := maxL) (ret := ret) hM hbl hrc hrs hfr hlo hws hcw (fun a' U hW => word_at hW (Or.inl (by first | rfl | simp [Cond.onTables, Cond.keeps, Cond.steady])) hini)
theorem vx_runV (S : CallFix p m c cc nL s args Ts own) (hM : vx_Met l y ws rm Pc Qc XC mc ms free) (cw : CallW R s args own C index y bytes maxL ret ws rm mc ms n) (hp : PreV s H C b Pc As)
    (hg : g.method = m) (hn : As.length = n) (hsize : g.locals.size = nL) (hstack : g.stack = As.reverse ++ .ref b :: rest) (hW : 2 * g.monitorRoom + (rest.map fun v => v.category).sum ≤ 8) (hdg : decode cc g.pc = .ok (.invokevirtual index, 3)) (hf : cells + mc ≤ R.cells ∧ slots + ms ≤ R.slots) :
    vx_Run p l e R s m args below meth c H locs cells slots mc ms g rest (Qc (Value.ref b :: As).toArray) XC free := by
  have hK : vx_Back l R p e below s args y 3 8 (PreOf R mc ms Pc) (PostOf Qc mc ms free) (vx_Post XC mc ms free) := vx_callBack cw.1 hM hp.1
  obtain ⟨⟨-, -, -, -, -, -, hcode, -, hy, hlen, hl⟩, hin, hse⟩ := cw
  obtain ⟨hx, hb, hml, ho, -⟩ := S
  obtain ⟨-, ⟨cellB, hcB, hoB, hclB⟩, hPc⟩ := hp
  intro T hT X
  rcases vx_callV X hx (C := C) (bytes := bytes) (maxL := maxL) (ret := ret) ho hl hin hse hcode hy hK (by rw [hT]; exact hcB) hoB hclB hg (hsize.trans hml.symm) (argsL := As) (rest := rest) (fun sig h => hn.trans (hlen sig h)) hstack hW (by rw [hb]; exact hdg)
    (fun vm₁ hW₁ => ⟨hf.1, hf.2, hPc (T.setVm vm₁) hT hW₁⟩) with ⟨v, vm₁, ⟨U', l2, c2, s2⟩, hW₁, X', ⟨g', mk, t, L, e1, e2, hq, h1, hL, h2, h3⟩, st⟩ | ⟨q, vm₁, ⟨U', l2, c2, s2⟩, hW₁, X', ⟨g', mk, t, L, E, ce, e1, e2, hq, hce, hcv, hcl, h1, hL, h2, h3⟩, st⟩
  · dsimp only [Pt.U, Pt.locs, Pt.cells, Pt.slots] at X' e1 e2 h1 h2 h3 st
    subst h1; subst h2; subst h3
    exact Or.inl ⟨v, (T.setVm vm₁).calling g' mk (Value.ref b :: As).toArray, t, U', L, hT, X', hL, e1, e2, hq, st⟩
  · dsimp only [Pt.U, Pt.locs, Pt.cells, Pt.slots] at X' e1 e2 h1 h2 h3 st hcl
    subst h1; subst h2; subst h3
    exact Or.inr ⟨q, (T.setVm vm₁).calling g' mk (Value.ref b :: As).toArray, t, U', L, E, ce, hT, X', hL, e1, e2, hq, hce, hcv, vx_cls hW₁ hcl, st⟩
theorem vx_runS (S : CallFix p m c cc nL s args Ts own) (hM : vx_Met l y ws rm Pc Qc XC mc ms free) (cw : CallB R s args own index y bytes maxL ret ws rm mc ms n ∧ (Cond.static y).before args s = true) (hp : PreS s H Pc As)
    (hg : g.method = m) (hn : As.length = n) (hsize : g.locals.size = nL) (hstack : g.stack = As.reverse ++ rest) (hW : 2 * g.monitorRoom + (rest.map fun v => v.category).sum ≤ 8) (hdg : decode cc g.pc = .ok (.invokestatic index, 3)) (hf : cells + mc ≤ R.cells ∧ slots + ms ≤ R.slots) :
    vx_Run p l e R s m args below meth c H locs cells slots mc ms g rest (Qc As.toArray) XC free := by
  have hK : vx_Back l R p e below s args y 3 8 (PreOf R mc ms Pc) (PostOf Qc mc ms free) (vx_Post XC mc ms free) := vx_callBack cw.1 hM hp.1
  obtain ⟨⟨-, -, -, -, -, -, hcode, hini, hy, hlen, hl⟩, hstt⟩ := cw
  obtain ⟨hx, hb, hml, ho, -⟩ := S
  intro T hT X
  rcases vx_callS X hx (bytes := bytes) (maxL := maxL) (ret := ret) ho hl hstt hini hcode hy hK hg (hsize.trans hml.symm) (argsL := As) (rest := rest) (fun sig h => hn.trans (hlen sig h)) hstack hW (by rw [hb]; exact hdg)
    (fun vm₁ hW₁ => ⟨hf.1, hf.2, hp.2 (T.setVm vm₁) hT hW₁⟩) with ⟨v, vm₁, ⟨U', l2, c2, s2⟩, hW₁, X', ⟨g', mk, t, L, e1, e2, hq, h1, hL, h2, h3⟩, st⟩ | ⟨q, vm₁, ⟨U', l2, c2, s2⟩, hW₁, X', ⟨g', mk, t, L, E, ce, e1, e2, hq, hce, hcv, hcl, h1, hL, h2, h3⟩, st⟩
  · dsimp only [Pt.U, Pt.locs, Pt.cells, Pt.slots] at X' e1 e2 h1 h2 h3 st
    subst h1; subst h2; subst h3
    exact Or.inl ⟨v, (T.setVm vm₁).calling g' mk As.toArray, t, U', L, hT, X', hL, e1, e2, hq, st⟩
  · dsimp only [Pt.U, Pt.locs, Pt.cells, Pt.slots] at X' e1 e2 h1 h2 h3 st hcl
    subst h1; subst h2; subst h3
    exact Or.inr ⟨q, (T.setVm vm₁).calling g' mk As.toArray, t, U', L, E, ce, hT, X', hL, e1, e2, hq, hce, hcv, vx_cls hW₁ hcl, st⟩
end Runs
section Rows
variable {p : Program} {l : Launch} {e : Env} {R : Room} {s : State} {m : MethodId} {args : Array Value} {below : List Frame} {meth : Method} {c : Code} {H : Heap} {locs : List Loc} {cells slots : Nat} {Q : State → Prop}
variable {mc ms : Nat} {free : Addr → Prop} {A0 A1 : Nat → Prop} {H0 : Heap} {a : Array Value} {pc : Nat} {ls : Array Slot} {st0 rest : List Value}
theorem vx_keep {st₀ t T' : State} {L : List Loc} (h0 : st₀.heap = H) (e1 : T'.heap = t.heap) (hS : va_S A0 H0 H locs) (hA : ∀ q, q < H.size → A1 q → A0 q) (hf : ∀ q, free q → A0 q) (hL : ∀ q ∈ L, free q.base) (hF : va_F A1 st₀ t) :
    H.size ≤ T'.heap.size ∧ (∀ q : Nat, q < H.size → ¬ A1 q → T'.heap[q]? = H[q]?) ∧ va_S A0 H0 T'.heap (locs ++ L) := by
  obtain ⟨hz, hk⟩ := hF
  rw [h0] at hz hk
  exact ⟨by rw [e1]; exact hz, fun q h1 h2 => by rw [e1]; exact hk q h1 h2,
    ⟨Nat.le_trans hS.1 (by rw [e1]; exact hz), fun q h1 h2 => by rw [e1, hk q (Nat.lt_of_lt_of_le h1 hS.1) (fun z => h2 (hA q (Nat.lt_of_lt_of_le h1 hS.1) z))]; exact hS.2.1 q h1 h2, fun q hq => by
      rcases List.mem_append.mp hq with h | h
      · exact hS.2.2 q h
      · exact hf _ (hL q h)⟩⟩
theorem vx_calli {S SX : Type} {post : Int32 → S → Prop} {px : SX → Prop} {B : S → State → Prop} {BX : String → SX → State → Prop} {AX : Nat → Prop} (hr : vx_Run p l e R s m args below meth c H locs cells slots mc ms (F0 m pc ls st0) rest (va_Qi post B A1 a) (vx_X px BX AX) free) (hS : va_S A0 H0 H locs) (hA : ∀ q, q < H.size → A1 q → A0 q) (hf : ∀ q, free q → A0 q) (hAX : ∀ q, q < H.size → AX q → A0 q)
    (kx : ∀ (E : String) (ce : Cell) (q9 : Addr) (u : SX) (t : State) (H1 : Heap) (locs1 : List Loc), t.heap = H1 → s.vm.Alike t.vm → px u → BX E u t → H.size ≤ H1.size → (∀ q : Nat, q < H.size → ¬ AX q → H1[q]? = H[q]?) → va_S A0 H0 H1 locs1 → H1[q9]? = some ce → ce.vm = .none → s.vm.findClass E = some ce.cls → vx_W p l e R s m args below meth c H1 locs1 (cells + mc) (slots + ms) Q (F0 m pc ls rest) q9)
    (kk : ∀ (r : Int32) (u : S) (t : State) (H1 : Heap) (locs1 : List Loc), t.heap = H1 → s.vm.Alike t.vm → post r u → B u t → H.size ≤ H1.size → (∀ q : Nat, q < H.size → ¬ A1 q → H1[q]? = H[q]?) → va_S A0 H0 H1 locs1 → W p l e R s m args below meth c H1 locs1 (cells + mc) (slots + ms) Q (F0 m (pc + 3) ls (.int r :: rest))) : W p l e R s m args below meth c H locs cells slots Q (F0 m pc ls st0) := by
  intro T hT X
  rcases hr T hT X with ⟨v, st₀, t, T', L, h0, X', hL, e1, e2, ⟨⟨r, u, hv, hp, hb⟩, hF⟩, st⟩ | ⟨q, st₀, t, T', L, E, ce, h0, X', hL, e1, e2, ⟨u, hp, hb, hF⟩, hce, hcv, hcl, st⟩
  · cases hv
    obtain ⟨k1, k2, k3⟩ := vx_keep h0 e1 hS hA hf hL hF
    obtain ⟨t2, a1, b1⟩ := kk r u t T'.heap (locs ++ L) e1.symm (by rw [← e2]; exact X'.warmed.alike) hp hb k1 k2 k3 T' rfl X'
    exact ⟨t2, st t2 a1, b1⟩
  · obtain ⟨k1, k2, k3⟩ := vx_keep h0 e1 hS hAX hf hL hF
    obtain ⟨t2, a1, b1⟩ := kx E ce q u t T'.heap (locs ++ L) e1.symm (by rw [← e2]; exact X'.warmed.alike) hp hb k1 k2 k3 (by rw [e1]; exact hce) hcv hcl T' rfl X'
    exact ⟨t2, st.trans a1, b1⟩
theorem vx_calll {S SX : Type} {post : Int64 → S → Prop} {px : SX → Prop} {B : S → State → Prop} {BX : String → SX → State → Prop} {AX : Nat → Prop} (hr : vx_Run p l e R s m args below meth c H locs cells slots mc ms (F0 m pc ls st0) rest (va_Ql post B A1 a) (vx_X px BX AX) free) (hS : va_S A0 H0 H locs) (hA : ∀ q, q < H.size → A1 q → A0 q) (hf : ∀ q, free q → A0 q) (hAX : ∀ q, q < H.size → AX q → A0 q)
    (kx : ∀ (E : String) (ce : Cell) (q9 : Addr) (u : SX) (t : State) (H1 : Heap) (locs1 : List Loc), t.heap = H1 → s.vm.Alike t.vm → px u → BX E u t → H.size ≤ H1.size → (∀ q : Nat, q < H.size → ¬ AX q → H1[q]? = H[q]?) → va_S A0 H0 H1 locs1 → H1[q9]? = some ce → ce.vm = .none → s.vm.findClass E = some ce.cls → vx_W p l e R s m args below meth c H1 locs1 (cells + mc) (slots + ms) Q (F0 m pc ls rest) q9)
    (kk : ∀ (r : Int64) (u : S) (t : State) (H1 : Heap) (locs1 : List Loc), t.heap = H1 → s.vm.Alike t.vm → post r u → B u t → H.size ≤ H1.size → (∀ q : Nat, q < H.size → ¬ A1 q → H1[q]? = H[q]?) → va_S A0 H0 H1 locs1 → W p l e R s m args below meth c H1 locs1 (cells + mc) (slots + ms) Q (F0 m (pc + 3) ls (.long r :: rest))) : W p l e R s m args below meth c H locs cells slots Q (F0 m pc ls st0) := by
  intro T hT X
  rcases hr T hT X with ⟨v, st₀, t, T', L, h0, X', hL, e1, e2, ⟨⟨r, u, hv, hp, hb⟩, hF⟩, st⟩ | ⟨q, st₀, t, T', L, E, ce, h0, X', hL, e1, e2, ⟨u, hp, hb, hF⟩, hce, hcv, hcl, st⟩
  · cases hv
    obtain ⟨k1, k2, k3⟩ := vx_keep h0 e1 hS hA hf hL hF
    obtain ⟨t2, a1, b1⟩ := kk r u t T'.heap (locs ++ L) e1.symm (by rw [← e2]; exact X'.warmed.alike) hp hb k1 k2 k3 T' rfl X'
    exact ⟨t2, st t2 a1, b1⟩
  · obtain ⟨k1, k2, k3⟩ := vx_keep h0 e1 hS hAX hf hL hF
    obtain ⟨t2, a1, b1⟩ := kx E ce q u t T'.heap (locs ++ L) e1.symm (by rw [← e2]; exact X'.warmed.alike) hp hb k1 k2 k3 (by rw [e1]; exact hce) hcv hcl T' rfl X'
    exact ⟨t2, st.trans a1, b1⟩
theorem vx_callf {S SX : Type} {post : UInt32 → S → Prop} {px : SX → Prop} {B : S → State → Prop} {BX : String → SX → State → Prop} {AX : Nat → Prop} (hr : vx_Run p l e R s m args below meth c H locs cells slots mc ms (F0 m pc ls st0) rest (va_Qf post B A1 a) (vx_X px BX AX) free) (hS : va_S A0 H0 H locs) (hA : ∀ q, q < H.size → A1 q → A0 q) (hf : ∀ q, free q → A0 q) (hAX : ∀ q, q < H.size → AX q → A0 q)
    (kx : ∀ (E : String) (ce : Cell) (q9 : Addr) (u : SX) (t : State) (H1 : Heap) (locs1 : List Loc), t.heap = H1 → s.vm.Alike t.vm → px u → BX E u t → H.size ≤ H1.size → (∀ q : Nat, q < H.size → ¬ AX q → H1[q]? = H[q]?) → va_S A0 H0 H1 locs1 → H1[q9]? = some ce → ce.vm = .none → s.vm.findClass E = some ce.cls → vx_W p l e R s m args below meth c H1 locs1 (cells + mc) (slots + ms) Q (F0 m pc ls rest) q9)
    (kk : ∀ (r : UInt32) (u : S) (t : State) (H1 : Heap) (locs1 : List Loc), t.heap = H1 → s.vm.Alike t.vm → post r u → B u t → H.size ≤ H1.size → (∀ q : Nat, q < H.size → ¬ A1 q → H1[q]? = H[q]?) → va_S A0 H0 H1 locs1 → W p l e R s m args below meth c H1 locs1 (cells + mc) (slots + ms) Q (F0 m (pc + 3) ls (.float r :: rest))) : W p l e R s m args below meth c H locs cells slots Q (F0 m pc ls st0) := by
  intro T hT X
  rcases hr T hT X with ⟨v, st₀, t, T', L, h0, X', hL, e1, e2, ⟨⟨r, u, hv, hp, hb⟩, hF⟩, st⟩ | ⟨q, st₀, t, T', L, E, ce, h0, X', hL, e1, e2, ⟨u, hp, hb, hF⟩, hce, hcv, hcl, st⟩
  · cases hv
    obtain ⟨k1, k2, k3⟩ := vx_keep h0 e1 hS hA hf hL hF
    obtain ⟨t2, a1, b1⟩ := kk r u t T'.heap (locs ++ L) e1.symm (by rw [← e2]; exact X'.warmed.alike) hp hb k1 k2 k3 T' rfl X'
    exact ⟨t2, st t2 a1, b1⟩
  · obtain ⟨k1, k2, k3⟩ := vx_keep h0 e1 hS hAX hf hL hF
    obtain ⟨t2, a1, b1⟩ := kx E ce q u t T'.heap (locs ++ L) e1.symm (by rw [← e2]; exact X'.warmed.alike) hp hb k1 k2 k3 (by rw [e1]; exact hce) hcv hcl T' rfl X'
    exact ⟨t2, st.trans a1, b1⟩
theorem vx_calld {S SX : Type} {post : UInt64 → S → Prop} {px : SX → Prop} {B : S → State → Prop} {BX : String → SX → State → Prop} {AX : Nat → Prop} (hr : vx_Run p l e R s m args below meth c H locs cells slots mc ms (F0 m pc ls st0) rest (va_Qd post B A1 a) (vx_X px BX AX) free) (hS : va_S A0 H0 H locs) (hA : ∀ q, q < H.size → A1 q → A0 q) (hf : ∀ q, free q → A0 q) (hAX : ∀ q, q < H.size → AX q → A0 q)
    (kx : ∀ (E : String) (ce : Cell) (q9 : Addr) (u : SX) (t : State) (H1 : Heap) (locs1 : List Loc), t.heap = H1 → s.vm.Alike t.vm → px u → BX E u t → H.size ≤ H1.size → (∀ q : Nat, q < H.size → ¬ AX q → H1[q]? = H[q]?) → va_S A0 H0 H1 locs1 → H1[q9]? = some ce → ce.vm = .none → s.vm.findClass E = some ce.cls → vx_W p l e R s m args below meth c H1 locs1 (cells + mc) (slots + ms) Q (F0 m pc ls rest) q9)
    (kk : ∀ (r : UInt64) (u : S) (t : State) (H1 : Heap) (locs1 : List Loc), t.heap = H1 → s.vm.Alike t.vm → post r u → B u t → H.size ≤ H1.size → (∀ q : Nat, q < H.size → ¬ A1 q → H1[q]? = H[q]?) → va_S A0 H0 H1 locs1 → W p l e R s m args below meth c H1 locs1 (cells + mc) (slots + ms) Q (F0 m (pc + 3) ls (.double r :: rest))) : W p l e R s m args below meth c H locs cells slots Q (F0 m pc ls st0) := by
  intro T hT X
  rcases hr T hT X with ⟨v, st₀, t, T', L, h0, X', hL, e1, e2, ⟨⟨r, u, hv, hp, hb⟩, hF⟩, st⟩ | ⟨q, st₀, t, T', L, E, ce, h0, X', hL, e1, e2, ⟨u, hp, hb, hF⟩, hce, hcv, hcl, st⟩
  · cases hv
    obtain ⟨k1, k2, k3⟩ := vx_keep h0 e1 hS hA hf hL hF
    obtain ⟨t2, a1, b1⟩ := kk r u t T'.heap (locs ++ L) e1.symm (by rw [← e2]; exact X'.warmed.alike) hp hb k1 k2 k3 T' rfl X'
    exact ⟨t2, st t2 a1, b1⟩
  · obtain ⟨k1, k2, k3⟩ := vx_keep h0 e1 hS hAX hf hL hF
    obtain ⟨t2, a1, b1⟩ := kx E ce q u t T'.heap (locs ++ L) e1.symm (by rw [← e2]; exact X'.warmed.alike) hp hb k1 k2 k3 (by rw [e1]; exact hce) hcv hcl T' rfl X'
    exact ⟨t2, st.trans a1, b1⟩
theorem vx_callv {S SX : Type} {post : S → Prop} {px : SX → Prop} {B : S → State → Prop} {BX : String → SX → State → Prop} {AX : Nat → Prop} (hr : vx_Run p l e R s m args below meth c H locs cells slots mc ms (F0 m pc ls st0) rest (va_Qv post B A1 a) (vx_X px BX AX) free) (hS : va_S A0 H0 H locs) (hA : ∀ q, q < H.size → A1 q → A0 q) (hf : ∀ q, free q → A0 q) (hAX : ∀ q, q < H.size → AX q → A0 q)
    (kx : ∀ (E : String) (ce : Cell) (q9 : Addr) (u : SX) (t : State) (H1 : Heap) (locs1 : List Loc), t.heap = H1 → s.vm.Alike t.vm → px u → BX E u t → H.size ≤ H1.size → (∀ q : Nat, q < H.size → ¬ AX q → H1[q]? = H[q]?) → va_S A0 H0 H1 locs1 → H1[q9]? = some ce → ce.vm = .none → s.vm.findClass E = some ce.cls → vx_W p l e R s m args below meth c H1 locs1 (cells + mc) (slots + ms) Q (F0 m pc ls rest) q9)
    (kk : ∀ (u : S) (t : State) (H1 : Heap) (locs1 : List Loc), t.heap = H1 → s.vm.Alike t.vm → post u → B u t → H.size ≤ H1.size → (∀ q : Nat, q < H.size → ¬ A1 q → H1[q]? = H[q]?) → va_S A0 H0 H1 locs1 → W p l e R s m args below meth c H1 locs1 (cells + mc) (slots + ms) Q (F0 m (pc + 3) ls (rest))) : W p l e R s m args below meth c H locs cells slots Q (F0 m pc ls st0) := by
  intro T hT X
  rcases hr T hT X with ⟨v, st₀, t, T', L, h0, X', hL, e1, e2, ⟨⟨u, hv, hp, hb⟩, hF⟩, st⟩ | ⟨q, st₀, t, T', L, E, ce, h0, X', hL, e1, e2, ⟨u, hp, hb, hF⟩, hce, hcv, hcl, st⟩
  · cases hv
    obtain ⟨k1, k2, k3⟩ := vx_keep h0 e1 hS hA hf hL hF
    obtain ⟨t2, a1, b1⟩ := kk u t T'.heap (locs ++ L) e1.symm (by rw [← e2]; exact X'.warmed.alike) hp hb k1 k2 k3 T' rfl X'
    exact ⟨t2, st t2 a1, b1⟩
  · obtain ⟨k1, k2, k3⟩ := vx_keep h0 e1 hS hAX hf hL hF
    obtain ⟨t2, a1, b1⟩ := kx E ce q u t T'.heap (locs ++ L) e1.symm (by rw [← e2]; exact X'.warmed.alike) hp hb k1 k2 k3 (by rw [e1]; exact hce) hcv hcl T' rfl X'
    exact ⟨t2, st.trans a1, b1⟩
/-- caught by the row x of this method's table; the rows ahead don't take it -/
theorem vx_catch {own name : String} {E : String} {ce : Cell} {q : Addr} (hown : s.vm.findClass own = some m.cls) (pre : List ExceptionTableEntry) (x : ExceptionTableEntry) (suf : List ExceptionTableEntry) (hsplit : c.exceptionTable.toList = pre ++ x :: suf)
    (hpass : ∀ z ∈ pre, covers z pc = false ∨ (z.catchType ≠ 0 ∧ ∃ nm : String, (Cond.classLink own z.catchType nm).before args s = true ∧ va_Nc E nm s)) (hx : covers x pc = true) (h0 : x.catchType ≠ 0)
    (hlink : (Cond.classLink own x.catchType name).before args s = true) (hcast : (Cond.castable E name).before args s = true) (hcell : H[q]? = some ce) (hv : ce.vm = .none) (hcl : s.vm.findClass E = some ce.cls)
    (kk : W p l e R s m args below meth c H locs cells slots Q (F0 m x.handlerPc ls [.ref q])) : vx_W p l e R s m args below meth c H locs cells slots Q (F0 m pc ls rest) q := by
  intro T hT X
  have hpl : e.platform.magicAccessors = ({} : Platform).magicAccessors := by rw [X.admits.platform]
  obtain ⟨c3, c4, hc3, hc4, hasg⟩ := Cond.castable_spec hcast
  cases Option.some.inj (hc3.symm.trans hcl)
  obtain ⟨c5, hc5, hcl5⟩ := Cond.classLink_spec hown hlink e.platform hpl
  cases Option.some.inj (hc4.symm.trans hc5)
  obtain ⟨vm', X', st⟩ := X.thenCaughtThrough q (g := F0 m pc ls rest) rfl (Steps.refl _) (by rw [hT]; exact hcell) (by rw [hv]; rfl) (by obtain ⟨k9, h9, -⟩ := Vm.findClass_spec hcl; exact ⟨k9, h9⟩) pre x suf hsplit
    (fun z hz => by
      rcases hpass z hz with h | ⟨hz0, nm, hl1, hn1⟩
      · exact Or.inl h
      · obtain ⟨c6, hc6, hcl6⟩ := Cond.classLink_spec hown hl1 e.platform hpl
        obtain ⟨a8, b8, h1, h2, h3⟩ := hn1
        cases Option.some.inj (h1.symm.trans hcl)
        cases Option.some.inj (h2.symm.trans hc6)
        exact Or.inr ⟨hz0, _, hcl6, h3⟩) hx (Or.inr ⟨h0, c4, hcl5, hasg⟩)
  obtain ⟨t, a1, b1⟩ := kk (T.setVm vm') hT X'
  exact ⟨t, st.trans a1, b1⟩
end Rows
section Ends
variable {p : Program} {l : Launch} {e : Env} {R : Room} {s : State} {m : MethodId} {args : Array Value} {below : List Frame} {meth : Method} {c : Code} {H : Heap} {locs : List Loc} {cells slots : Nat} {Q : State → Prop}
variable {mc ms : Nat} {free : Addr → Prop} {A0 A1 : Nat → Prop} {H0 : Heap} {a : Array Value} {ls : Array Slot} {st0 rest : List Value}
variable {Qc : Array Value → State → Outcome → State → Prop} {XC : String → State → State → Prop}
/-- what a body that may throw owes at its end -/
def vx_MQ (below : List Frame) (Qc : Array Value → State → Outcome → State → Prop) (XC : String → State → State → Prop) (a : Array Value) (s : State) (mc ms : Nat) (free : Addr → Prop) : State → Prop := fun t =>
  ∃ o, t.status = .running ∧ Ended t below o ∧ vx_Q Qc XC mc ms free a s o t
theorem vx_ret {g : JFrame} {mc ms : Nat} (k : W p l e R s m args below meth c H locs cells slots (MQ below Qc args s mc ms free) g) : W p l e R s m args below meth c H locs cells slots (vx_MQ below Qc XC args s mc ms free) g := by
  intro T hT X
  obtain ⟨t, a1, o, b1, b2, b3, b4⟩ := k T hT X
  exact ⟨t, a1, o, b1, b2, Or.inl ⟨b3, b4⟩⟩
/-- not caught here: it goes on to the caller -/
theorem vx_widen {g : JFrame} {q : Addr} {k n : Nat} (h1 : cells ≤ k) (h2 : slots ≤ n) (kk : vx_W p l e R s m args below meth c H locs k n Q g q) : vx_W p l e R s m args below meth c H locs cells slots Q g q := fun T hT X => kk T hT (stand_widen X h1 h2)
theorem vx_out {pc : Nat} {E : String} {ce : Cell} {q : Addr} {mc ms : Nat} (hout : ∀ x ∈ c.exceptionTable.toList, covers x pc = false) (hlocks : meth.locks = false) (hcell : H[q]? = some ce) (hv : ce.vm = .none) (hcl : s.vm.findClass E = some ce.cls)
    (hx : ∀ t : State, t.heap = H → s.vm.Alike t.vm → XC E s t) (hf : ∀ z ∈ locs, free z.base) (hc : cells ≤ mc) (hs : slots ≤ ms) :
    vx_W p l e R s m args below meth c H locs cells slots (vx_MQ below Qc XC args s mc ms free) (F0 m pc ls rest) q := by
  intro T hT X
  obtain ⟨st1, hrun, hend, hW, hsm⟩ := X.leaveThrown q (g := F0 m pc ls rest) rfl rfl rfl hout hlocks
  have hcell9 : (T.setFrames (.throwing q :: below)).heap[q]? = some ce := by
    show T.heap[q]? = some ce
    rw [hT]; exact hcell
  exact ⟨_, st1, .threw q, hrun, hend, Or.inr ⟨q, rfl, E, ce, locs, hx _ hT hW.alike, hcell9, hv, hcl, hW, hsm.mono hc hs, hf⟩⟩
theorem vx_frame {U : State} {k n : Nat} (h : s.sameButNew ({ U with vm := s.vm } : State) locs k n) : s.heap.size ≤ U.heap.size ∧ ∀ q : Nat, q < s.heap.size → (∀ z ∈ locs, z.base ≠ q) → U.heap[q]? = s.heap[q]? := by
  obtain ⟨-, h2, -, -, -, h6⟩ := h
  refine ⟨h2, fun q hq hz => ?_⟩
  obtain ⟨c9, e1, e2, e3, e4⟩ := h6 q _ (Array.getElem?_eq_getElem hq)
  have hs : c9.slots = (s.heap[q]).slots := Array.ext_getElem? fun i => e4 i fun hm => hz _ hm rfl
  have h9 : c9 = s.heap[q] := by
    rw [hs] at e2
    exact e2
  have e5 : U.heap[q]? = some c9 := e1
  rw [e5, h9, Array.getElem?_eq_getElem hq]
/-- the words of a throw but the four that speak of the heap -/
def vx_no (w : Cond) : Bool := decide (w ≠ .isRef (.static Bundle.tN "UNASSIGNED_STACK" Bundle.steD)) && decide (w ≠ .isRef (.static Bundle.tN "SUPPRESSED_SENTINEL" Bundle.listD)) && decide (w ≠ .laysStatic Bundle.tN "UNASSIGNED_STACK" Bundle.steD) && decide (w ≠ .laysStatic Bundle.tN "SUPPRESSED_SENTINEL" Bundle.listD)
def vx_at0 (own : String) (ic : Nat) (X : String) (names : List String) : List Cond := (Bundle.ownAtoms0 own ic X names).filter vx_no
def vx_atS (own : String) (ic : Nat) (X : String) (names : List String) : List Cond := (Bundle.ownAtoms own ic X names).filter vx_no
/-- a word that the tables alone decide, or a good one -/
def vx_ot (w : Cond) : Bool := w.onTables || goodWord w
theorem vx_ot_at {args a' : Array Value} {s U : State} {w : Cond} (hW : s.WarmedH U.vm) (hvm : s.vm = U.vm) (hg : vx_ot w = true) (h : w.before args s = true) : w.before a' U = true := by
  simp only [vx_ot, Bool.or_eq_true] at hg
  rcases hg with hg | hg
  · exact va_tabs hg hvm h
  · exact word_at hW (good_of_word hg) h
/-- a list's words: the good ones out of the method's own list, the others by premises of their own -/
theorem vx_hat {args : Array Value} {s : State} {L B : List Cond} (h1 : ∀ w ∈ L.filter goodWord, w.before args s = true) (h2 : ∀ w ∈ L.filter (fun w => !goodWord w), w ∈ B) (h3 : ∀ w ∈ B, w.before args s = true) : ∀ w ∈ L, w.before args s = true := by
  intro w hw
  by_cases g : goodWord w = true
  · exact h1 w (List.mem_filter.mpr ⟨hw, g⟩)
  · refine h3 w (h2 w (List.mem_filter.mpr ⟨hw, ?_⟩))
    show (!goodWord w) = true
    cases hgw : goodWord w
    · rfl
    · exact absurd hgw g
theorem vx_c {args : Array Value} {s : State} {w : Cond} {B : List Cond} (h : w.before args s = true) (t : ∀ w ∈ B, w.before args s = true) : ∀ w' ∈ w :: B, w'.before args s = true := fun w' h' => (List.mem_cons.mp h').elim (fun e => by rw [e]; exact h) (t w')
theorem vx_n {args : Array Value} {s : State} : ∀ w ∈ ([] : List Cond), w.before args s = true := fun _ h => nomatch h
theorem vx_own {args : Array Value} {s : State} {L : List Cond} (h1 : ∀ w ∈ L.filter vx_no, w.before args s = true)
    (hU : (Cond.isRef (.static Bundle.tN "UNASSIGNED_STACK" Bundle.steD)).before args s = true) (hN : (Cond.isRef (.static Bundle.tN "SUPPRESSED_SENTINEL" Bundle.listD)).before args s = true)
    (lU : (Cond.laysStatic Bundle.tN "UNASSIGNED_STACK" Bundle.steD).before args s = true) (lN : (Cond.laysStatic Bundle.tN "SUPPRESSED_SENTINEL" Bundle.listD).before args s = true) : ∀ w ∈ L, w.before args s = true := by
  intro w hw
  by_cases e1 : w = .isRef (.static Bundle.tN "UNASSIGNED_STACK" Bundle.steD)
  · rw [e1]; exact hU
  · by_cases e2 : w = .isRef (.static Bundle.tN "SUPPRESSED_SENTINEL" Bundle.listD)
    · rw [e2]; exact hN
    · by_cases e3 : w = .laysStatic Bundle.tN "UNASSIGNED_STACK" Bundle.steD
      · rw [e3]; exact lU
      · by_cases e4 : w = .laysStatic Bundle.tN "SUPPRESSED_SENTINEL" Bundle.listD
        · rw [e4]; exact lN
        · exact h1 w (List.mem_filter.mpr ⟨hw, by unfold vx_no; rw [decide_eq_true e1, decide_eq_true e2, decide_eq_true e3, decide_eq_true e4]; rfl⟩)
/-- where a static field lies, its class's statics cell in H -/
def vx_L (C n d : String) (A : Nat → Prop) (U : State) (H : Heap) : Prop := ∃ (c : ClassId) (k : Class) (i : Nat) (f : Field) (a : Nat) (cell : Cell), U.vm.findClass C = some c ∧ U.fieldFound? C n d = some (c, k, i, f) ∧ f.isStatic = true ∧ k.statics = some a ∧ H[a]? = some cell ∧ cell.vm.isStatics = true ∧ cell.cls = c ∧ f.slot < cell.slots.size ∧ k.staticTypes[f.slot]? = some f.type ∧ ¬ A a
theorem vx_L.moved {C n d : String} {A : Nat → Prop} {u U : State} {H : Heap} (hvm : u.vm.Alike U.vm) (h : vx_L C n d A u H) : vx_L C n d A U H := by
  obtain ⟨c, k, i, f, a, cell, h1, h2, h3, h4, h5, h6, h7, h8, h9, h10⟩ := h
  obtain ⟨k', hi', he⟩ := State.fieldFound?_setVm hvm h2
  exact ⟨c, k', i, f, a, cell, by rw [hvm.findClass]; exact h1, hi', h3, by rw [he]; exact h4, h5, h6, h7, h8, by rw [he]; exact h9, h10⟩
theorem vx_L.kept {C n d : String} {A : Nat → Prop} {U : State} {H H1 : Heap} (h : vx_L C n d A U H) (hq : ∀ a : Nat, a < H.size → ¬ A a → H1[a]? = H[a]?) : vx_L C n d A U H1 := by
  obtain ⟨c, k, i, f, a, cell, h1, h2, h3, h4, h5, h6, h7, h8, h9, h10⟩ := h
  exact ⟨c, k, i, f, a, cell, h1, h2, h3, h4, by rw [hq a (Array.getElem?_eq_some_iff.mp h5).1 h10]; exact h5, h6, h7, h8, h9, h10⟩
theorem vx_L.narrow {C n d : String} {A B : Nat → Prop} {U : State} {H : Heap} (h : vx_L C n d A U H) (hAB : ∀ q, B q → A q) : vx_L C n d B U H := by
  obtain ⟨c, k, i, f, a, cell, h1, h2, h3, h4, h5, h6, h7, h8, h9, h10⟩ := h
  exact ⟨c, k, i, f, a, cell, h1, h2, h3, h4, h5, h6, h7, h8, h9, fun z => h10 (hAB _ z)⟩
theorem vx_L.word {C n d : String} {A : Nat → Prop} {s : State} {args : Array Value} (h : vx_L C n d A s s.heap) : (Cond.laysStatic C n d).before args s = true := by
  obtain ⟨c, k, i, f, a, cell, h1, h2, h3, h4, h5, h6, h7, h8, h9, -⟩ := h
  show (Cond.laysStatic C n d).holds args s none s [] = true
  exact Cond.laysStatic_of h1 h2 h3 h4 h5 h6 h7 h8 h9
/-- .. and what it holds: null or some reference -/
def vx_Zq (C n d : String) (A : Nat → Prop) (U : State) (H : Heap) : Prop := va_Zq C n d A U H ∧ vx_L C n d A U H
theorem vx_Zq.moved {C n d : String} {A : Nat → Prop} {u U : State} {H : Heap} (hvm : u.vm.Alike U.vm) (h : vx_Zq C n d A u H) : vx_Zq C n d A U H := ⟨va_Zq.moved hvm h.1, vx_L.moved hvm h.2⟩
theorem vx_Zq.kept {C n d : String} {A : Nat → Prop} {U : State} {H H1 : Heap} (h : vx_Zq C n d A U H) (hq : ∀ a : Nat, a < H.size → ¬ A a → H1[a]? = H[a]?) : vx_Zq C n d A U H1 := ⟨va_Zq.kept h.1 hq, vx_L.kept h.2 hq⟩
theorem vx_Zq.narrow {C n d : String} {A B : Nat → Prop} {U : State} {H : Heap} (h : vx_Zq C n d A U H) (hAB : ∀ q, B q → A q) : vx_Zq C n d B U H := ⟨va_Zq.narrow h.1 hAB, vx_L.narrow h.2 hAB⟩
theorem vx_Zqof {args : Array Value} {s : State} {C n d : String} {A : Nat → Prop} (hl : (Cond.laysStatic C n d).before args s = true) (hini : (Cond.initialized C).before args s = true) (h : (Cond.isRef (.static C n d)).before args s = true) (hA : ∀ a : Nat, a < s.heap.size → ¬ A a) : vx_Zq C n d A s s.heap := by
  refine ⟨va_Zqof hl hini h hA, ?_⟩
  obtain ⟨c, k, i, f, a, cell, h1, h2, h3, h4, h5, h6, h7, h8, h9⟩ := Cond.laysStatic_spec hl
  exact ⟨c, k, i, f, a, cell, h1, h2, h3, h4, h5, h6, h7, h8, h9, hA a (Array.getElem?_eq_some_iff.mp h5).1⟩
theorem vx_isRef {C n d : String} {v : Value} {A : Nat → Prop} {s : State} {args : Array Value} (h : va_Z C n d v A s s.heap) (hv : v.isRef = true) : (Cond.isRef (.static C n d)).before args s = true := by
  obtain ⟨cf, kf, fi, f, a, cell, h1, h2, h3, h4, h5, h6, h7, -⟩ := h
  have he : (Term.static C n d).eval args s none [] s = some v := by
    simp [Term.eval, State.fieldNamed?, h1, h2, h4, h5, h6, h7]
  simp only [Cond.before, Cond.holds, Cond.value, he]
  cases v <;> simp_all [Value.isRef]
theorem vx_isRefq {C n d : String} {A : Nat → Prop} {s : State} {args : Array Value} (h : va_Zq C n d A s s.heap) : (Cond.isRef (.static C n d)).before args s = true := by
  rcases h with h | ⟨t, h⟩
  · exact vx_isRef h rfl
  · exact vx_isRef h rfl
/-- the same frame, seen from here: as if the method were called anew in this heap -/
theorem vx_rebase {T : State} (X : Stand p l e R s m args below meth c T locs cells slots) {R' : Room} (hf : R'.frames ≤ R.frames) (hl : R'.locals ≤ R.locals) (hc : cells + R'.cells ≤ R.cells) (hs : slots + R'.slots ≤ R.slots) :
    Stand p l e R' ((T.setVm s.vm).setFrames (.invoking m args :: below)) m args below meth c T [] 0 0 := by
  have htop : (T.setVm s.vm).topJava?.isSome := X.here.top
  have hF : ((T.setVm s.vm).setFrames (.invoking m args :: below)).frames = .invoking m args :: below := State.frames_setFrames _ (State.cur_lt_of_top htop)
  obtain ⟨g₀, hg0⟩ := Option.isSome_iff_exists.mp htop
  obtain ⟨r, hr⟩ := State.topJava?_eq_some.mp hg0
  have hl9 : e.platform.stackLimits (T.setVm s.vm).me = e.platform.stackLimits s.me := X.limits
  have hb9 : (T.setVm s.vm).me.stackBytes = s.me.stackBytes := X.bytes
  refine ⟨X.admits, X.cas, X.clock, hF, ?_, X.hears, X.method, X.code, X.here, X.tail, X.warmed, ?_, ?_, ?_⟩
  · have h := X.room
    have hU : ((T.setVm s.vm).setFrames (.invoking m args :: below)).localsInUse = s.localsInUse := by
      rw [State.localsInUse_invoking hF (meth := meth) (c := c) X.method X.code, State.localsInUse_invoking X.frames X.method X.code]
    simp only [State.hasRoom, Bool.and_eq_true, decide_eq_true_eq] at h ⊢
    obtain ⟨⟨⟨⟨h1, h2, h3, h4, h5, h6⟩, h7⟩, h8⟩, h9⟩ := h
    rw [X.frames, List.length_cons] at h2 h3
    have q1 := X.heapSize
    have q2 := X.used
    simp only [hF, hU, List.length_cons, State.stackLimits_setFrames, State.stackBytes_setFrames, hl9, hb9]
    refine ⟨⟨⟨⟨by omega, by omega, by omega, by omega, by omega, h6⟩, ?_⟩, ?_⟩, X.book⟩
    · show T.heap.size + R'.cells ≤ e.platform.maxCells
      omega
    · show T.slotsUsed + R'.slots ≤ e.platform.maxSlots
      omega
  · rw [State.stackLimits_setFrames]; rfl
  · rw [State.stackBytes_setFrames]; rfl
  · refine ⟨?_, Nat.le_refl _, Nat.le_refl _, ?_, ?_, fun a c9 h9 => ⟨c9, h9, rfl, rfl, fun _ _ => rfl⟩⟩
    · obtain ⟨t, ht, -⟩ := State.frames_cons hr
      show T.setVm s.vm = { ((T.setVm s.vm).setFrames (.invoking m args :: below)).setFrames (T.setVm s.vm).frames with heap := T.heap, slotsUsed := T.slotsUsed }
      rw [State.setFrames_setFrames, State.setFrames_self ht]
      rfl
    · show T.slotsUsed = T.slotsUsed + ((T.heap.toList.drop T.heap.size).map (·.slots.size)).sum
      rw [List.drop_eq_nil_of_le (Nat.le_of_eq Array.length_toList)]
      rfl
    · show ((T.heap.toList.drop T.heap.size).map (·.slots.size)).sum ≤ 0
      rw [List.drop_eq_nil_of_le (Nat.le_of_eq Array.length_toList)]
      exact Nat.le_refl _
/-- 'throw new E()': new; dup; invokespecial; athrow -/
theorem vx_throw0 {cc : ByteArray} {pc : Nat} (hexec : p.tables.exec = Jvm.exec) (hb : c.code = cc) (hl : l.stackTraces = false) {own cls : String} {names : List String} {ik ic mc ms : Nat} {A : Nat → Prop}
    (hown : s.vm.findClass own = some m.cls) (hcls : Bundle.fit cls = true) (hnames : ∀ n ∈ names, Bundle.fit n = true)
    (hk : (Cond.classLink own ik cls).before args s = true) (hini : (Cond.initialized cls).before args s = true) (hat : ∀ w ∈ vx_at0 own ic cls names, w.before args s = true)
    (hgood : ∀ w ∈ Cond.classLink own ik cls :: Cond.initialized cls :: vx_at0 own ic cls names, vx_ot w = true)
    (hU : vx_Zq Bundle.tN "UNASSIGNED_STACK" Bundle.steD A s s.heap) (hN : vx_Zq Bundle.tN "SUPPRESSED_SENTINEL" Bundle.listD A s s.heap) (hS : va_S A s.heap H locs) (hsize : ls.size = c.maxLocals)
    (d0 : decode cc pc = .ok (.new ik, 3)) (d3 : decode cc (pc + 3) = .ok (.dup, 1)) (d4 : decode cc (pc + 4) = .ok (.invokespecial ic, 3)) (d7 : decode cc (pc + 7) = .ok (.athrow, 1))
    (hout : ∀ x ∈ c.exceptionTable.toList, covers x (pc + 7) = false)
    (hRframes : names.length + 3 < R.frames) (hRlocals : (rest.map fun v => v.category).sum + (13 * (names.length + 1) + 42) ≤ R.locals) (hRcells : cells + 1 ≤ R.cells) (hRslots : slots + 6 ≤ R.slots) (hlocks : meth.locks = false)
    (hx : ∀ t : State, s.vm.Alike t.vm → H.size ≤ t.heap.size → (∀ q : Nat, q < H.size → t.heap[q]? = H[q]?) → XC cls s t)
    (hf : ∀ z ∈ locs, free z.base) (hc : cells + 1 ≤ mc) (hs : slots + 6 ≤ ms) :
    W p l e R s m args below meth c H locs cells slots (vx_MQ below Qc XC args s mc ms free) (F0 m pc ls rest) := by
  intro T hT X
  have htr : e.platform.stackTraces = false := (show e.platform.stackTraces = l.stackTraces by rw [X.admits.platform]).trans hl
  have Y := vx_rebase X (R' := { frames := R.frames, locals := R.locals, cells := 1, slots := 6 }) (Nat.le_refl _) (Nat.le_refl _) hRcells hRslots
  obtain ⟨s', hA⟩ : ∃ z, z = (T.setVm s.vm).setFrames (.invoking m args :: below) := ⟨_, rfl⟩
  rw [← hA] at Y
  have hvm : s'.vm = s.vm := by rw [hA]; rfl
  have hhp : s'.heap = H := by rw [hA]; exact hT
  have hW0 : s.WarmedH s'.vm := by rw [hvm]; exact State.WarmedH.refl s
  have hat' : ∀ w ∈ vx_at0 own ic cls names, w.before args s' = true := fun w hw => vx_ot_at hW0 hvm.symm (hgood w (List.mem_cons_of_mem _ (List.mem_cons_of_mem _ hw))) (hat w hw)
  have hk' : (Cond.classLink own ik cls).before args s' = true := vx_ot_at hW0 hvm.symm (hgood _ List.mem_cons_self) hk
  have hini' : (Cond.initialized cls).before args s' = true := vx_ot_at hW0 hvm.symm (hgood _ (List.mem_cons_of_mem _ List.mem_cons_self)) hini
  have hU' : vx_Zq Bundle.tN "UNASSIGNED_STACK" Bundle.steD A s' s'.heap := by rw [hhp]; exact vx_Zq.moved hW0.alike (hU.kept hS.2.1)
  have hN' : vx_Zq Bundle.tN "SUPPRESSED_SENTINEL" Bundle.listD A s' s'.heap := by rw [hhp]; exact vx_Zq.moved hW0.alike (hN.kept hS.2.1)
  have h : ∀ w ∈ Bundle.ownAtoms0 own ic cls names, w.before args s' = true := vx_own hat' (vx_isRefq hU'.1) (vx_isRefq hN'.1) hU'.2.word hN'.2.word
  have hown' : s'.vm.findClass own = some m.cls := by rw [hvm]; exact hown
  have hins : (Cond.instantiable cls 6).before args s' = true := h _ (by simp [Bundle.ownAtoms0])
  obtain ⟨vm₁, cX, kX, hfX, hkX, -, -, X₁, st1⟩ := Y.newCold hexec (own := own) (C := cls) (index := ik) (n := 6) hown' hk' hins hini'
    (g := F0 m pc ls rest) rfl (by rw [hb]; exact d0) (Nat.le_refl _) (Nat.le_refl _)
  generalize hT1 : (T.setVm vm₁).pushCell { cls := cX, slots := kX.instanceTypes.map defaultValue, vm := .none } = T1 at X₁ st1
  have hcat : (Value.ref T.heap.size).category = 1 := rfl
  have hcellA : T1.heap[T.heap.size]? = some (freshCell cX kX) := by rw [← hT1]; exact State.heap_pushCell_size _ _
  have d3' : decode c.code (pc + 3) = .ok (.dup, 1) := by rw [hb]; exact d3
  obtain ⟨U, hsteps, hrun, hend, hW, hsame, ce, hce, hO⟩ := X₁.ctorThrow0 hexec htr (own := own) (cls := cls) (names := names) (ic := ic) hown' hcls hnames h (fun x hx => nomatch hx) hfX hkX hcellA (by rw [hhp, hT]; exact Nat.le_refl _)
    (g := { method := m, pc := pc + 4, locals := ls, stack := .ref T.heap.size :: .ref T.heap.size :: rest, locked := none }) rfl hsize rfl rfl (rest := rest) rfl
    (by rw [hb]; exact d4) (by rw [hb]; exact d7) hout hRframes (by simp only [List.map_cons, List.sum_cons, hcat]; omega) hlocks
  obtain ⟨f1, f2⟩ := vx_frame hsame
  rw [hhp] at f1 f2
  have hWs : s.WarmedH U.vm := State.WarmedH.trans hW0 hW
  have hcl : s.vm.findClass cls = some ce.cls := by
    have h9 := hO.cls
    rw [hvm] at h9
    exact h9
  have hall : s.sameButNew ({ U with vm := s.vm } : State) locs mc ms := by
    subst hA
    obtain ⟨e1, e2⟩ := hsame
    rw [State.setFrames_setFrames] at e1
    have h2 : (T.setVm s.vm).sameButNew ({ U with vm := s.vm } : State) [] (0 + 1) (0 + 6) := ⟨e1, e2⟩
    have h3 := X.same.trans h2
    rw [List.append_nil] at h3
    exact h3.mono hc hs
  refine ⟨U, ?_, .threw T.heap.size, hrun, hend, Or.inr ⟨T.heap.size, rfl, cls, ce, locs, hx U hWs.alike f1 (fun q hq => f2 q hq (fun z hz => nomatch hz)), hce, hO.vm, hcl, hWs, hall, hf⟩⟩
  refine st1 _ ?_
  show Steps p.tables e below (T1.setTop { method := m, pc := pc + 3, locals := ls, stack := .ref T.heap.size :: rest, locked := none }) _
  jvm_step X₁.here [X₁.here.top, hexec, d3', Value.category]
  exact hsteps
/-- 'throw new E("text")': new; dup; ldc; invokespecial; athrow -/
theorem vx_throwS {cc : ByteArray} {pc : Nat} (hexec : p.tables.exec = Jvm.exec) (hb : c.code = cc) (hl : l.stackTraces = false) {own cls text : String} {names : List String} {ik is ic mc ms sa : Nat} {A : Nat → Prop}
    (hown : s.vm.findClass own = some m.cls) (hcls : Bundle.fit cls = true) (hnames : ∀ n ∈ names, Bundle.fit n = true)
    (hk : (Cond.classLink own ik cls).before args s = true) (hini : (Cond.initialized cls).before args s = true) (hstr : vk_R own is text sa s) (hat : ∀ w ∈ vx_atS own ic cls names, w.before args s = true)
    (hgood : ∀ w ∈ Cond.classLink own ik cls :: Cond.initialized cls :: vx_atS own ic cls names, vx_ot w = true)
    (hU : vx_Zq Bundle.tN "UNASSIGNED_STACK" Bundle.steD A s s.heap) (hN : vx_Zq Bundle.tN "SUPPRESSED_SENTINEL" Bundle.listD A s s.heap) (hS : va_S A s.heap H locs) (hsize : ls.size = c.maxLocals)
    (d0 : decode cc pc = .ok (.new ik, 3)) (d3 : decode cc (pc + 3) = .ok (.dup, 1)) (d4 : decode cc (pc + 4) = .ok (.ldc is, 2)) (d6 : decode cc (pc + 6) = .ok (.invokespecial ic, 3)) (d9 : decode cc (pc + 9) = .ok (.athrow, 1))
    (hout : ∀ x ∈ c.exceptionTable.toList, covers x (pc + 9) = false)
    (hRframes : names.length + 3 < R.frames) (hRlocals : (rest.map fun v => v.category).sum + (13 * (names.length + 1) + 43) ≤ R.locals) (hRcells : cells + 1 ≤ R.cells) (hRslots : slots + 6 ≤ R.slots) (hlocks : meth.locks = false)
    (hx : ∀ t : State, s.vm.Alike t.vm → H.size ≤ t.heap.size → (∀ q : Nat, q < H.size → t.heap[q]? = H[q]?) → XC cls s t)
    (hf : ∀ z ∈ locs, free z.base) (hc : cells + 1 ≤ mc) (hs : slots + 6 ≤ ms) :
    W p l e R s m args below meth c H locs cells slots (vx_MQ below Qc XC args s mc ms free) (F0 m pc ls rest) := by
  intro T hT X
  have htr : e.platform.stackTraces = false := (show e.platform.stackTraces = l.stackTraces by rw [X.admits.platform]).trans hl
  have Y := vx_rebase X (R' := { frames := R.frames, locals := R.locals, cells := 1, slots := 6 }) (Nat.le_refl _) (Nat.le_refl _) hRcells hRslots
  obtain ⟨s', hA⟩ : ∃ z, z = (T.setVm s.vm).setFrames (.invoking m args :: below) := ⟨_, rfl⟩
  rw [← hA] at Y
  have hvm : s'.vm = s.vm := by rw [hA]; rfl
  have hhp : s'.heap = H := by rw [hA]; exact hT
  have hW0 : s.WarmedH s'.vm := by rw [hvm]; exact State.WarmedH.refl s
  have hat' : ∀ w ∈ vx_atS own ic cls names, w.before args s' = true := fun w hw => vx_ot_at hW0 hvm.symm (hgood w (List.mem_cons_of_mem _ (List.mem_cons_of_mem _ hw))) (hat w hw)
  have hk' : (Cond.classLink own ik cls).before args s' = true := vx_ot_at hW0 hvm.symm (hgood _ List.mem_cons_self) hk
  have hini' : (Cond.initialized cls).before args s' = true := vx_ot_at hW0 hvm.symm (hgood _ (List.mem_cons_of_mem _ List.mem_cons_self)) hini
  have hU' : vx_Zq Bundle.tN "UNASSIGNED_STACK" Bundle.steD A s' s'.heap := by rw [hhp]; exact vx_Zq.moved hW0.alike (hU.kept hS.2.1)
  have hN' : vx_Zq Bundle.tN "SUPPRESSED_SENTINEL" Bundle.listD A s' s'.heap := by rw [hhp]; exact vx_Zq.moved hW0.alike (hN.kept hS.2.1)
  have h : ∀ w ∈ Bundle.ownAtoms own ic cls names, w.before args s' = true := vx_own hat' (vx_isRefq hU'.1) (vx_isRefq hN'.1) hU'.2.word hN'.2.word
  have hown' : s'.vm.findClass own = some m.cls := by rw [hvm]; exact hown
  have hins : (Cond.instantiable cls 6).before args s' = true := h _ (by simp [Bundle.ownAtoms])
  obtain ⟨vm₁, cX, kX, hfX, hkX, -, -, X₁, st1⟩ := Y.newCold hexec (own := own) (C := cls) (index := ik) (n := 6) hown' hk' hins hini'
    (g := F0 m pc ls rest) rfl (by rw [hb]; exact d0) (Nat.le_refl _) (Nat.le_refl _)
  generalize hT1 : (T.setVm vm₁).pushCell { cls := cX, slots := kX.instanceTypes.map defaultValue, vm := .none } = T1 at X₁ st1
  have hcat : (Value.ref T.heap.size).category = 1 := rfl
  have hcellA : T1.heap[T.heap.size]? = some (freshCell cX kX) := by rw [← hT1]; exact State.heap_pushCell_size _ _
  have d3' : decode c.code (pc + 3) = .ok (.dup, 1) := by rw [hb]; exact d3
  have d4' : decode c.code (pc + 4) = .ok (.ldc is, 2) := by rw [hb]; exact d4
  have hstr' : vk_R own is text sa s' := vk_R.warm hW0 hstr
  obtain ⟨U, hsteps, hrun, hend, hW, hsame, ce, hce, hO⟩ := X₁.ctorThrowS hexec htr (own := own) (cls := cls) (names := names) (ic := ic) hown' hcls hnames h (fun x hx => nomatch hx) hfX hkX hcellA (by rw [hhp, hT]; exact Nat.le_refl _) (msg := .ref sa) rfl
    (g := { method := m, pc := pc + 6, locals := ls, stack := .ref sa :: .ref T.heap.size :: .ref T.heap.size :: rest, locked := none }) rfl hsize rfl rfl (rest := rest) rfl
    (by rw [hb]; exact d6) (by rw [hb]; exact d9) hout hRframes (by simp only [List.map_cons, List.sum_cons, hcat]; omega) hlocks
  obtain ⟨f1, f2⟩ := vx_frame hsame
  rw [hhp] at f1 f2
  have hWs : s.WarmedH U.vm := State.WarmedH.trans hW0 hW
  have hcl : s.vm.findClass cls = some ce.cls := by
    have h9 := hO.cls
    rw [hvm] at h9
    exact h9
  have hall : s.sameButNew ({ U with vm := s.vm } : State) locs mc ms := by
    subst hA
    obtain ⟨e1, e2⟩ := hsame
    rw [State.setFrames_setFrames] at e1
    have h2 : (T.setVm s.vm).sameButNew ({ U with vm := s.vm } : State) [] (0 + 1) (0 + 6) := ⟨e1, e2⟩
    have h3 := X.same.trans h2
    rw [List.append_nil] at h3
    exact h3.mono hc hs
  refine ⟨U, ?_, .threw T.heap.size, hrun, hend, Or.inr ⟨T.heap.size, rfl, cls, ce, locs, hx U hWs.alike f1 (fun q hq => f2 q hq (fun z hz => nomatch hz)), hce, hO.vm, hcl, hWs, hall, hf⟩⟩
  refine st1 _ ?_
  show Steps p.tables e below (T1.setTop { method := m, pc := pc + 3, locals := ls, stack := .ref T.heap.size :: rest, locked := none }) _
  jvm_step X₁.here [X₁.here.top, hexec, d3', Value.category]
  exact X₁.ldcString hexec (own := own) (text := text) (index := is) (a := sa) hown' hstr'.1 hstr'.2
    (g := { method := m, pc := pc + 4, locals := ls, stack := .ref T.heap.size :: .ref T.heap.size :: rest, locked := none }) rfl d4' _ hsteps
/-- 'throw new E("text")', the text by a wide index -/
theorem vx_throwSW {cc : ByteArray} {pc : Nat} (hexec : p.tables.exec = Jvm.exec) (hb : c.code = cc) (hl : l.stackTraces = false) {own cls text : String} {names : List String} {ik is ic mc ms sa : Nat} {A : Nat → Prop}
    (hown : s.vm.findClass own = some m.cls) (hcls : Bundle.fit cls = true) (hnames : ∀ n ∈ names, Bundle.fit n = true)
    (hk : (Cond.classLink own ik cls).before args s = true) (hini : (Cond.initialized cls).before args s = true) (hstr : vk_R own is text sa s) (hat : ∀ w ∈ vx_atS own ic cls names, w.before args s = true)
    (hgood : ∀ w ∈ Cond.classLink own ik cls :: Cond.initialized cls :: vx_atS own ic cls names, vx_ot w = true)
    (hU : vx_Zq Bundle.tN "UNASSIGNED_STACK" Bundle.steD A s s.heap) (hN : vx_Zq Bundle.tN "SUPPRESSED_SENTINEL" Bundle.listD A s s.heap) (hS : va_S A s.heap H locs) (hsize : ls.size = c.maxLocals)
    (d0 : decode cc pc = .ok (.new ik, 3)) (d3 : decode cc (pc + 3) = .ok (.dup, 1)) (d4 : decode cc (pc + 4) = .ok (.ldc_w is, 3)) (d7 : decode cc (pc + 7) = .ok (.invokespecial ic, 3)) (d10 : decode cc (pc + 10) = .ok (.athrow, 1))
    (hout : ∀ x ∈ c.exceptionTable.toList, covers x (pc + 10) = false)
    (hRframes : names.length + 3 < R.frames) (hRlocals : (rest.map fun v => v.category).sum + (13 * (names.length + 1) + 43) ≤ R.locals) (hRcells : cells + 1 ≤ R.cells) (hRslots : slots + 6 ≤ R.slots) (hlocks : meth.locks = false)
    (hx : ∀ t : State, s.vm.Alike t.vm → H.size ≤ t.heap.size → (∀ q : Nat, q < H.size → t.heap[q]? = H[q]?) → XC cls s t)
    (hf : ∀ z ∈ locs, free z.base) (hc : cells + 1 ≤ mc) (hs : slots + 6 ≤ ms) :
    W p l e R s m args below meth c H locs cells slots (vx_MQ below Qc XC args s mc ms free) (F0 m pc ls rest) := by
  intro T hT X
  have htr : e.platform.stackTraces = false := (show e.platform.stackTraces = l.stackTraces by rw [X.admits.platform]).trans hl
  have Y := vx_rebase X (R' := { frames := R.frames, locals := R.locals, cells := 1, slots := 6 }) (Nat.le_refl _) (Nat.le_refl _) hRcells hRslots
  obtain ⟨s', hA⟩ : ∃ z, z = (T.setVm s.vm).setFrames (.invoking m args :: below) := ⟨_, rfl⟩
  rw [← hA] at Y
  have hvm : s'.vm = s.vm := by rw [hA]; rfl
  have hhp : s'.heap = H := by rw [hA]; exact hT
  have hW0 : s.WarmedH s'.vm := by rw [hvm]; exact State.WarmedH.refl s
  have hat' : ∀ w ∈ vx_atS own ic cls names, w.before args s' = true := fun w hw => vx_ot_at hW0 hvm.symm (hgood w (List.mem_cons_of_mem _ (List.mem_cons_of_mem _ hw))) (hat w hw)
  have hk' : (Cond.classLink own ik cls).before args s' = true := vx_ot_at hW0 hvm.symm (hgood _ List.mem_cons_self) hk
  have hini' : (Cond.initialized cls).before args s' = true := vx_ot_at hW0 hvm.symm (hgood _ (List.mem_cons_of_mem _ List.mem_cons_self)) hini
  have hU' : vx_Zq Bundle.tN "UNASSIGNED_STACK" Bundle.steD A s' s'.heap := by rw [hhp]; exact vx_Zq.moved hW0.alike (hU.kept hS.2.1)
  have hN' : vx_Zq Bundle.tN "SUPPRESSED_SENTINEL" Bundle.listD A s' s'.heap := by rw [hhp]; exact vx_Zq.moved hW0.alike (hN.kept hS.2.1)
  have h : ∀ w ∈ Bundle.ownAtoms own ic cls names, w.before args s' = true := vx_own hat' (vx_isRefq hU'.1) (vx_isRefq hN'.1) hU'.2.word hN'.2.word
  have hown' : s'.vm.findClass own = some m.cls := by rw [hvm]; exact hown
  have hins : (Cond.instantiable cls 6).before args s' = true := h _ (by simp [Bundle.ownAtoms])
  obtain ⟨vm₁, cX, kX, hfX, hkX, -, -, X₁, st1⟩ := Y.newCold hexec (own := own) (C := cls) (index := ik) (n := 6) hown' hk' hins hini'
    (g := F0 m pc ls rest) rfl (by rw [hb]; exact d0) (Nat.le_refl _) (Nat.le_refl _)
  generalize hT1 : (T.setVm vm₁).pushCell { cls := cX, slots := kX.instanceTypes.map defaultValue, vm := .none } = T1 at X₁ st1
  have hcat : (Value.ref T.heap.size).category = 1 := rfl
  have hcellA : T1.heap[T.heap.size]? = some (freshCell cX kX) := by rw [← hT1]; exact State.heap_pushCell_size _ _
  have d3' : decode c.code (pc + 3) = .ok (.dup, 1) := by rw [hb]; exact d3
  have d4' : decode c.code (pc + 4) = .ok (.ldc_w is, 3) := by rw [hb]; exact d4
  have hstr' : vk_R own is text sa s' := vk_R.warm hW0 hstr
  obtain ⟨U, hsteps, hrun, hend, hW, hsame, ce, hce, hO⟩ := X₁.ctorThrowS hexec htr (own := own) (cls := cls) (names := names) (ic := ic) hown' hcls hnames h (fun x hx => nomatch hx) hfX hkX hcellA (by rw [hhp, hT]; exact Nat.le_refl _) (msg := .ref sa) rfl
    (g := { method := m, pc := pc + 7, locals := ls, stack := .ref sa :: .ref T.heap.size :: .ref T.heap.size :: rest, locked := none }) rfl hsize rfl rfl (rest := rest) rfl
    (by rw [hb]; exact d7) (by rw [hb]; exact d10) hout hRframes (by simp only [List.map_cons, List.sum_cons, hcat]; omega) hlocks
  obtain ⟨f1, f2⟩ := vx_frame hsame
  rw [hhp] at f1 f2
  have hWs : s.WarmedH U.vm := State.WarmedH.trans hW0 hW
  have hcl : s.vm.findClass cls = some ce.cls := by
    have h9 := hO.cls
    rw [hvm] at h9
    exact h9
  have hall : s.sameButNew ({ U with vm := s.vm } : State) locs mc ms := by
    subst hA
    obtain ⟨e1, e2⟩ := hsame
    rw [State.setFrames_setFrames] at e1
    have h2 : (T.setVm s.vm).sameButNew ({ U with vm := s.vm } : State) [] (0 + 1) (0 + 6) := ⟨e1, e2⟩
    have h3 := X.same.trans h2
    rw [List.append_nil] at h3
    exact h3.mono hc hs
  refine ⟨U, ?_, .threw T.heap.size, hrun, hend, Or.inr ⟨T.heap.size, rfl, cls, ce, locs, hx U hWs.alike f1 (fun q hq => f2 q hq (fun z hz => nomatch hz)), hce, hO.vm, hcl, hWs, hall, hf⟩⟩
  refine st1 _ ?_
  show Steps p.tables e below (T1.setTop { method := m, pc := pc + 3, locals := ls, stack := .ref T.heap.size :: rest, locked := none }) _
  jvm_step X₁.here [X₁.here.top, hexec, d3', Value.category]
  exact X₁.ldcStringW hexec (own := own) (text := text) (index := is) (a := sa) hown' hstr'.1 hstr'.2
    (g := { method := m, pc := pc + 4, locals := ls, stack := .ref T.heap.size :: .ref T.heap.size :: rest, locked := none }) rfl d4' _ hsteps
end Ends
section Bodies
variable {l : Launch}
theorem vx_ofW {y : MethodName} {ws ws' : List Cond} {rm : Room} {Pc : Array Value → State → Prop} {Qc : Array Value → State → Outcome → State → Prop} {XC : String → State → State → Prop} {mc ms : Nat} {free : Addr → Prop} {cc : ByteArray} {maxL : Nat} {ret : Option FieldType}
    (hy : plainName y.cls = true) (hw : ws = Cond.code y cc maxL ret :: ws')
    (body : ∀ p e s m args below meth c s₁, BodyLoose p l y (headSpec ws rm) cc maxL ret e s m args below meth c s₁ → c.maxLocals = maxL → (∀ x ∈ c.exceptionTable.toList, False) → Pc args s →
      W p l e (headSpec ws rm).room s m args below meth c s.heap [] 0 0 (vx_MQ below Qc XC args s mc ms free) (entryFrame m args maxL)) : vx_Met l y ws rm Pc Qc XC mc ms free := by
  refine MetFree.of_bodyS (code := cc) (maxLocals := maxL) (ret := ret) hy ?_ ?_
  · intro args s m h hn
    obtain ⟨meth, c, h1, h2, h3, h4, h5, h6, -, -⟩ := Cond.code_spec hn (atoms_spec (ws := ws) h _ (by rw [hw]; exact List.mem_cons_self))
    exact ⟨meth, c, h1, h2, h3, h4, h5, h6⟩
  · intro p e s m args below meth c s₁ B hml hP _
    have hh0 : s₁.heap = s.heap := by rw [B.state]; rfl
    have ht : ∀ x ∈ c.exceptionTable.toList, False := by
      obtain ⟨meth9, c9, h1, h2, -, -, -, -, h7, -⟩ := Cond.code_spec B.named (atoms_spec (ws := ws) B.pre _ (by rw [hw]; exact List.mem_cons_self))
      cases Option.some.inj (h1.symm.trans B.method)
      cases Option.some.inj (h2.symm.trans (Stand.of_body B).code)
      intro x hx
      rw [Array.isEmpty_iff.mp h7] at hx
      cases hx
    obtain ⟨t, a1, o, b1, b2, b3⟩ := body p e s m args below meth c s₁ B hml ht hP s₁ hh0 (Stand.of_body B)
    exact ⟨t, o, a1, b1, b2, b3⟩
/-- the table of a body with handlers -/
theorem vx_table {p : Program} {x y : MethodName} {S : Spec} {cc bytes : ByteArray} {maxL maxL' : Nat} {ret ret' : Option FieldType} {e : Env} {s s₁ : State} {m : MethodId} {args : Array Value} {below : List Frame} {meth : Method} {c : Code} {hh : List (Nat × Nat × Nat × Nat)}
    (B : BodyLoose p l y S cc maxL ret e s m args below meth c s₁) (h : (Cond.codeWith y bytes maxL' ret' hh).before args s = true) : c.exceptionTable.toList = tableOf hh := by
  obtain ⟨m9, meth9, c9, hn9, h1, h2, -, -, h6, -⟩ := Cond.codeWith_spec h
  cases Option.some.inj (hn9.symm.trans B.named)
  cases Option.some.inj (h1.symm.trans B.method)
  cases Option.some.inj (h2.symm.trans (Stand.of_body B).code)
  rw [← h6, table_eq]
end Bodies
end VXA
/-! ===== END ===== -/
/-! ===== BEGIN a static call of a method with an exception table ===== -/
section VXS
variable {p : Program} {l : Launch} {e : Env} {R : Room} {s : State} {m : MethodId} {args : Array Value} {below : List Frame} {meth : Method} {c : Code} {T : State} {H : Heap} {locs : List Loc} {cells slots : Nat}
abbrev vx_CSW (R : Room) (s : State) (args : Array Value) (own : String) (index : Nat) (y : MethodName) (bytes : ByteArray) (maxL : Nat) (ret : Option FieldType) (hh : List (Nat × Nat × Nat × Nat)) (ws : List Cond) (rm : Room) (mc ms n : Nat) : Prop :=
  (rm.cells = mc ∧ rm.slots = ms ∧ rm.frames + 1 ≤ R.frames ∧ 8 + (maxL + 11) + rm.locals ≤ R.locals ∧ (∀ w ∈ ws, ∀ (a' : Array Value) (U : State), s.WarmedH U.vm → w.before a' U = true) ∧ Cond.codeWith y bytes maxL ret hh ∈ ws) ∧
  (Cond.codeWith y bytes maxL ret hh).before args s = true ∧ (Cond.initialized y.cls).before args s = true ∧ (y.cls ≠ "java/lang/invoke/MethodHandle" ∧ y.cls ≠ "java/lang/invoke/VarHandle") ∧
  (∀ sig, parseMethodDescriptor y.desc = some sig → n = sig.parameters.length) ∧ (Cond.methodLink own index y).before args s = true ∧ (Cond.static y).before args s = true
theorem vx_cwSW {own : String} {index maxL mc ms : Nat} {y : MethodName} {bytes : ByteArray} {ret : Option FieldType} {hh : List (Nat × Nat × Nat × Nat)} {Ts ws ws' : List Cond} {rm : Room} (n : Nat) (ht : ∀ w ∈ Ts, w.before args s = true) (hT : GoodIn Ts (va_wsS own index y ws)) (hw : ws = Cond.codeWith y bytes maxL ret hh :: ws') (hrc : rm.cells = mc) (hrs : rm.slots = ms)
    (hd : y.cls ≠ "java/lang/invoke/MethodHandle" ∧ y.cls ≠ "java/lang/invoke/VarHandle" ∧ (parseMethodDescriptor y.desc).map (fun d => d.parameters.length) = some n) (hR : rm.frames + 1 ≤ R.frames ∧ 8 + (maxL + 11) + rm.locals ≤ R.locals) :
    vx_CSW R s args own index y bytes maxL ret hh ws rm mc ms n := by
  have ok : ∀ w ∈ va_wsS own index y ws, w.before args s = true := fun w h => ht w (hT w h).1
  have hG : GoodIn Ts ws := fun w h => hT w (by unfold va_wsS; exact List.mem_append_right _ h)
  have hc : Cond.codeWith y bytes maxL ret hh ∈ ws := by rw [hw]; exact List.mem_cons_self
  refine ⟨⟨hrc, hrs, hR.1, hR.2, pay_in ht hG, hc⟩, ht _ (hG _ hc).1, ok _ (by simp [va_wsS]), ⟨hd.1, hd.2.1⟩, fun sig h => ?_, ok _ (by simp [va_wsS]), ok _ (by simp [va_wsS])⟩
  have h2 := hd.2.2
  rw [h] at h2
  exact (Option.some.inj h2).symm
theorem vx_callSW (X : Stand p l e R s m args below meth c T locs cells slots) (hexec : p.tables.exec = Jvm.exec) {own : String} {index : Nat} {y : MethodName} {bytes : ByteArray} {maxL : Nat} {ret : Option FieldType} {hh : List (Nat × Nat × Nat × Nat)}
    (hown : s.vm.findClass own = some m.cls) (hlink : (Cond.methodLink own index y).before args s = true) (hstat : (Cond.static y).before args s = true) (hinit : (Cond.initialized y.cls).before args s = true)
    (hcode : (Cond.codeWith y bytes maxL ret hh).before args s = true) (hy : y.cls ≠ "java/lang/invoke/MethodHandle" ∧ y.cls ≠ "java/lang/invoke/VarHandle")
    {W9 : Nat} {Pre : Pt → Array Value → Prop} {Post : Pt → Array Value → Option Value → Pt → Prop} (hK : Back l R p e below s args y 3 W9 Pre Post)
    {g : JFrame} (hg : g.method = m) (hsize : g.locals.size = c.maxLocals) {argsL rest : List Value} (hlen : ∀ sig, parseMethodDescriptor y.desc = some sig → argsL.length = sig.parameters.length)
    (hstack : g.stack = argsL.reverse ++ rest) (hW : 2 * g.monitorRoom + (rest.map fun v => v.category).sum ≤ W9) (hdg : decode c.code g.pc = .ok (.invokestatic index, 3))
    (hpre : ∀ vm₁, s.WarmedH vm₁ → Pre ⟨T.setVm vm₁, locs, cells, slots⟩ argsL.toArray) :
    ∃ (v : Option Value) (vm₁ : Vm) (B : Pt), s.WarmedH vm₁ ∧ Stand p l e R s m args below meth c B.U B.locs B.cells B.slots ∧ Post ⟨T.setVm vm₁, locs, cells, slots⟩ argsL.toArray v B ∧
      ∀ target, Steps p.tables e below (B.U.setTop { g with pc := g.pc + 3, stack := v.toList ++ rest }) target → Steps p.tables e below (T.setTop g) target := by
  obtain ⟨mk, methM, cM, hnamed, hmethM, -, -, -, -, -, -, hsigM⟩ := Cond.codeWith_spec hcode
  have hstatic : methM.isStatic = true := Cond.static_spec hnamed hmethM hstat
  obtain ⟨kP, hkP, -⟩ := className_of_methodNamed hnamed
  have hinitP : kP.init = .initialized := Cond.initialized_spec (findClass_of_methodNamed hnamed) hkP hinit
  obtain ⟨vm₁, X₁, hstep₁⟩ := X.invokestatic hexec hown hlink hnamed hmethM hstatic hkP hinitP hy (g := g) hg (argsL := argsL) (rest := rest) (hlen _ hsigM) hstack hdg
  obtain ⟨v, B, X', hpost, hsteps⟩ := hK m meth c ⟨T.setVm vm₁, locs, cells, slots⟩ { g with stack := rest } (.invokestatic index) mk argsL.toArray X₁ hg hsize hdg hW (X₁.named hnamed) (hpre vm₁ X₁.warmed)
  exact ⟨v, vm₁, B, X₁.warmed, X', hpost, fun target h => hstep₁ _ fun acts => by rw [doInvoke_state]; exact hsteps.trans h⟩
theorem vx_runSW {y : MethodName} {bytes cc : ByteArray} {maxL nL mc ms n index : Nat} {ret : Option FieldType} {hh : List (Nat × Nat × Nat × Nat)} {ws : List Cond} {rm : Room} {Pc : Array Value → State → Prop} {Qc : Array Value → State → Outcome → State → Prop} {free : Addr → Prop} {Ts : List Cond} {own : String} {As rest : List Value} {g : JFrame}
    (S : CallFix p m c cc nL s args Ts own) (hM : Met l y ws rm Pc Qc mc ms free) (cw : vx_CSW R s args own index y bytes maxL ret hh ws rm mc ms n) (hp : PreS s H Pc As)
    (hg : g.method = m) (hn : As.length = n) (hsize : g.locals.size = nL) (hstack : g.stack = As.reverse ++ rest) (hW : 2 * g.monitorRoom + (rest.map fun v => v.category).sum ≤ 8) (hdg : decode cc g.pc = .ok (.invokestatic index, 3)) (hf : cells + mc ≤ R.cells ∧ slots + ms ≤ R.slots) :
    va_Run p l e R s m args below meth c H locs cells slots mc ms g rest (Qc As.toArray) (free) := by
  obtain ⟨⟨hrc, hrs, hfr, hlo, hws, hcw⟩, hcode, hini, hy, hlen, hl, hstt⟩ := cw
  have hK : Back l R p e below s args y 3 8 (PreOf R mc ms Pc) (PostOf Qc mc ms free) := va_backW (hh := hh) (bytes := bytes) (maxL := maxL) (ret := ret) hM hp.1 hrc hrs hfr hlo hws hcw (fun a' U hW => word_at hW (Or.inl (by first | rfl | simp [Cond.onTables, Cond.keeps, Cond.steady])) hini)
  obtain ⟨hx, hb, hml, ho, -⟩ := S
  intro T hT X
  obtain ⟨v, vm₁, ⟨U', l2, c2, s2⟩, hW₁, X', ⟨g', mk, t, L, e1, e2, hq, h1, hL, h2, h3⟩, st⟩ := vx_callSW X hx (hh := hh) (bytes := bytes) (maxL := maxL) (ret := ret) ho hl hstt hini hcode hy hK hg (hsize.trans hml.symm) (argsL := As) (rest := rest) (fun sig h => hn.trans (hlen sig h)) hstack hW (by rw [hb]; exact hdg)
    (fun vm₁ hW₁ => ⟨hf.1, hf.2, hp.2 (T.setVm vm₁) hT hW₁⟩)
  dsimp only [Pt.U, Pt.locs, Pt.cells, Pt.slots] at X' e1 e2 h1 h2 h3 st
  subst h1; subst h2; subst h3
  exact ⟨v, (T.setVm vm₁).calling g' mk As.toArray, t, U', L, hT, X', hL, e1, e2, hq, st⟩
/-- not caught here, past rows that name other classes: it goes on to the caller -/
theorem vx_outP {p : Program} {l : Launch} {e : Env} {R : Room} {s : State} {m : MethodId} {args : Array Value} {below : List Frame} {meth : Method} {c : Code} {H : Heap} {locs : List Loc} {cells slots : Nat} {free : Addr → Prop} {ls : Array Slot} {rest : List Value} {Qc : Array Value → State → Outcome → State → Prop} {XC : String → State → State → Prop}
    {pc : Nat} {own E : String} {ce : Cell} {q : Addr} {mc ms : Nat} (hown : s.vm.findClass own = some m.cls) (hlocks : meth.locks = false)
    (hpass : ∀ z ∈ c.exceptionTable.toList, covers z pc = false ∨ (z.catchType ≠ 0 ∧ ∃ nm : String, (Cond.classLink own z.catchType nm).before args s = true ∧ va_Nc E nm s)) (hcell : H[q]? = some ce) (hv : ce.vm = .none) (hcl : s.vm.findClass E = some ce.cls)
    (hx : ∀ t : State, t.heap = H → s.vm.Alike t.vm → XC E s t) (hf : ∀ z ∈ locs, free z.base) (hc : cells ≤ mc) (hs : slots ≤ ms) :
    vx_W p l e R s m args below meth c H locs cells slots (vx_MQ below Qc XC args s mc ms free) (F0 m pc ls rest) q := by
  intro T hT X
  have hpl : e.platform.magicAccessors = ({} : Platform).magicAccessors := by rw [X.admits.platform]
  obtain ⟨vm', hW', X', st⟩ := X.outThrough hlocks q (g := F0 m pc ls rest) rfl rfl rfl (cell := ce) (by rw [hT]; exact hcell) (by rw [hv]; rfl)
    (by obtain ⟨k9, h9, -⟩ := Vm.findClass_spec hcl; exact ⟨k9, h9⟩) (fun z hz => by
      rcases hpass z hz with h | ⟨hz0, nm, hl1, hn1⟩
      · exact Or.inl h
      · obtain ⟨c6, hc6, hcl6⟩ := Cond.classLink_spec hown hl1 e.platform hpl
        obtain ⟨a8, b8, h1, h2, h3⟩ := hn1
        cases Option.some.inj (h1.symm.trans hcl)
        cases Option.some.inj (h2.symm.trans hc6)
        exact Or.inr ⟨hz0, _, hcl6, h3⟩)
  obtain ⟨g₀, hfr⟩ := X'.frames_eq
  have hcell9 : ((T.setVm vm').setFrames (.throwing q :: below)).heap[q]? = some ce := by
    show T.heap[q]? = some ce
    rw [hT]; exact hcell
  have hend : Ended ((T.setVm vm').setFrames (.throwing q :: below)) below (.threw q) := State.frames_setFrames _ (State.cur_lt_of_frames hfr)
  refine ⟨(T.setVm vm').setFrames (.throwing q :: below), ?_, .threw q, X'.here.running, hend, Or.inr ⟨q, rfl, E, ce, locs, hx _ hT (X'.ends _).1.alike, hcell9, hv, hcl, (X'.ends _).1, (X'.ends _).2.mono hc hs, hf⟩⟩
  rw [X.pushThrowing_eq]
  exact st
/-- a thing of a world lies in the heap -/
theorem vx_lt {D : va_G} {cl : List vw_C} {ws : va_W} {H1 : Heap} (h : va_P D cl ws H1) {k : Nat} {q : Nat × va_E} (hk : ws[k]? = some q) : q.1 < H1.size := (h k q hk).lt
end VXS
/-! ===== END ===== -/
/-! ===== BEGIN methods with a table of their own: called by a name, returning or throwing ===== -/
section VXH
/-! vx_backW, vx_callVX, vx_callSX, vx_callVW, vx_runVW, vx_runVX, vx_runSX, vx_ofWH follow the same proofs as their sisters above (Free/Laws.lean, Shelf42/LK1.lean); vx_outP calls Shelf42/NT130.lean (outThrough). -/
section
variable {l : Launch} {R : Room} {p : Program} {e : Env} {below : List Frame} {s : State} {sargs : Array Value} {y : MethodName} {len W9 : Nat}
theorem vx_backW {ws : List Cond} {rm : Room} {Pc : Array Value → State → Prop} {Qc : Array Value → State → Outcome → State → Prop} {XC : String → State → State → Prop} {mc ms : Nat} {free : Addr → Prop} {bytes : ByteArray} {maxL : Nat} {ret : Option FieldType} {hh : List (Nat × Nat × Nat × Nat)}
    (hM : vx_Met l y ws rm Pc Qc XC mc ms free) (hblind : FrameBlind Pc) (hrc : rm.cells = mc) (hrs : rm.slots = ms)
    (hframes : rm.frames + 1 ≤ R.frames) (hlocals : W9 + (maxL + 11) + rm.locals ≤ R.locals)
    (hws : ∀ w ∈ ws, ∀ a' U, s.WarmedH U.vm → w.before a' U = true) (hcode : Cond.codeWith y bytes maxL ret hh ∈ ws) (hinit : ∀ a' U, s.WarmedH U.vm → (Cond.initialized y.cls).before a' U = true) :
    vx_Back l R p e below s sargs y len W9 (PreOf R mc ms Pc) (PostOf Qc mc ms free) (vx_Post XC mc ms free) := by
  intro m meth c A g ig mk a X hg hsize hdg hW hn hp
  have h1 : (headSpec ws rm).pre.before a A.U = true := atoms_intro fun w hw => hws w hw _ _ X.warmed
  have h2 : (Cond.codeWith y bytes maxL ret hh).before a A.U = true := hws _ hcode _ _ X.warmed
  have h3 : (Cond.initialized y.cls).before a A.U = true := hinit _ _ X.warmed
  have h4 : A.cells + (headSpec ws rm).room.cells ≤ R.cells := by rw [show (headSpec ws rm).room.cells = mc from hrc]; exact hp.1
  have h5 : A.slots + (headSpec ws rm).room.slots ≤ R.slots := by rw [show (headSpec ws rm).room.slots = ms from hrs]; exact hp.2.1
  have hPc : Pc a (A.U.calling g mk a) := hblind _ _ _ _ hp.2.2
  obtain ⟨U, Ls, c0, s0⟩ := A
  dsimp only [Pt.U, Pt.locs, Pt.cells, Pt.slots] at h1 h2 h3 h4 h5 X hn hPc ⊢
  obtain ⟨m9, methY, cY, hn9, hmY, hcY, -, hlY, -⟩ := Cond.codeWith_spec h2
  cases Option.some.inj (hn9.symm.trans hn)
  obtain ⟨kY, hkY, -⟩ := className_of_methodNamed hn
  have hinitY : kY.init = .initialized := Cond.initialized_spec (findClass_of_methodNamed hn) hkY h3
  have h : At U g.method c below := by rw [hg]; exact X.here
  have hlocals9 : W9 + (maxL + 11) + (headSpec ws rm).room.locals ≤ R.locals := hlocals
  have happ : (headSpec ws rm).appliesLoose y e.platform (U.calling g mk a) = true :=
    Spec.appliesLoose_calling (g := g) h hdg hn hkY hinitY
      (X.room_calling (g := g) (R' := (headSpec ws rm).room) hsize hmY hcY hframes (by rw [hlY]; omega) h4 h5) h1
  obtain ⟨mid, hmid⟩ := h.above
  have hfr : (U.setTop g).frames = (.java g :: mid) ++ below := by rw [State.frames_setTop' g h.top, hmid]; rfl
  obtain ⟨o, s₂, hsteps, -, hend, hq⟩ := Steps.callFree hM p X.admits X.cas X.clock (acts := []) hfr happ hPc trivial
  have hq' : vx_Q Qc XC mc ms free a (U.calling g mk a) o s₂ := hq
  rw [State.frames_setTop' g h.top] at hend
  obtain ⟨g₀, hg0⟩ := Option.isSome_iff_exists.mp h.top
  obtain ⟨r, hr⟩ := State.topJava?_eq_some.mp hg0
  have hr' : (({ U with heap := s₂.heap, slotsUsed := s₂.slotsUsed } : State).setVm s₂.vm).frames = .java g₀ :: r := hr
  rcases hq' with ⟨hqc, L, hfe, hL⟩ | ⟨q, rfl, E, ce, L, hx, hce, hcv, hcl, hW₂, hsm, hL⟩
  · obtain ⟨⟨v, rfl⟩, hW₂, e2, q2, q3, q4, q5, q6⟩ := id hfe
    have e3 : s₂ = ({ (U.calling g mk a).setFrames s₂.frames with heap := s₂.heap, slotsUsed := s₂.slotsUsed } : State).setVm s₂.vm := by
      have : s₂ = ({ s₂ with vm := (U.calling g mk a).vm } : State).setVm s₂.vm := rfl
      rw [e2] at this
      exact this
    obtain ⟨c₂, i₂, len₂, hc₂, hd₂, hf₂⟩ := hend
    have hW' : U.WarmedH s₂.vm := hW₂
    have hcc : c₂ = c := by
      have h1 : s₂.code? g.method = U.code? g.method := by
        rw [State.code?_eq, State.code?_eq, hW'.alike.method?]
      exact Option.some.inj (hc₂.symm.trans (h1.trans h.code))
    subst hcc
    have hlen : len₂ = len := by rw [hdg] at hd₂; cases hd₂; rfl
    subst hlen
    have hs₂ : s₂ = (({ U with heap := s₂.heap, slotsUsed := s₂.slotsUsed } : State).setVm s₂.vm).setTop { g with pc := g.pc + len₂, stack := v.toList ++ g.stack } := by
      refine e3.trans ?_
      rw [hf₂, State.calling_eq h.top, State.setFrames_setFrames, State.setTop_of_frames _ hr', hr]
      rfl
    have hsame : U.sameButNew ({ U with heap := s₂.heap, slotsUsed := s₂.slotsUsed } : State) L mc ms := by
      refine ⟨?_, q2, q3, q4, q5, q6⟩
      obtain ⟨t, ht, -⟩ := State.frames_cons hr
      show ({ U with heap := s₂.heap, slotsUsed := s₂.slotsUsed } : State) = { U.setFrames U.frames with heap := s₂.heap, slotsUsed := s₂.slotsUsed }
      rw [State.setFrames_self ht]
    subst hg
    refine Or.inl ⟨v, ⟨(({ U with heap := s₂.heap, slotsUsed := s₂.slotsUsed } : State).setVm s₂.vm), Ls ++ L, c0 + mc, s0 + ms⟩,
      ⟨X.admits, X.cas, X.clock, X.frames, X.room, X.hears, X.method, X.code, (X.here.setHeapUsed s₂.heap s₂.slotsUsed).setVm hW'.alike, X.tail, State.WarmedH.trans X.warmed hW', X.limits, X.bytes, X.same.trans (hsame.setVm s.vm)⟩,
      ⟨g, mk, s₂, L, rfl, rfl, hqc, rfl, hL, rfl, rfl⟩, ?_⟩
    show Steps p.tables e below _ ((({ U with heap := s₂.heap, slotsUsed := s₂.slotsUsed } : State).setVm s₂.vm).setTop { g with pc := g.pc + len₂, stack := v.toList ++ g.stack })
    rw [← hs₂]
    exact hsteps
  · obtain ⟨e2, q2, q3, q4, q5, q6⟩ := id hsm
    have e3 : s₂ = ({ (U.calling g mk a).setFrames s₂.frames with heap := s₂.heap, slotsUsed := s₂.slotsUsed } : State).setVm s₂.vm := by
      have : s₂ = ({ s₂ with vm := (U.calling g mk a).vm } : State).setVm s₂.vm := rfl
      rw [e2] at this
      exact this
    have hf₂ : s₂.frames = .throwing q :: .java g :: U.frames.tail := hend
    have hW' : U.WarmedH s₂.vm := hW₂
    have hs₂ : s₂ = ((({ U with heap := s₂.heap, slotsUsed := s₂.slotsUsed } : State).setVm s₂.vm).setTop g).pushFrame (.throwing q) := by
      refine e3.trans ?_
      rw [hf₂, State.calling_eq h.top, State.setFrames_setFrames, State.pushFrame, State.frames_setTop _ hr', State.setTop_of_frames _ hr', State.setFrames_setFrames, hr]
      rfl
    have hsame : U.sameButNew ({ U with heap := s₂.heap, slotsUsed := s₂.slotsUsed } : State) L mc ms := by
      refine ⟨?_, q2, q3, q4, q5, q6⟩
      obtain ⟨t, ht, -⟩ := State.frames_cons hr
      show ({ U with heap := s₂.heap, slotsUsed := s₂.slotsUsed } : State) = { U.setFrames U.frames with heap := s₂.heap, slotsUsed := s₂.slotsUsed }
      rw [State.setFrames_self ht]
    subst hg
    refine Or.inr ⟨q, ⟨(({ U with heap := s₂.heap, slotsUsed := s₂.slotsUsed } : State).setVm s₂.vm), Ls ++ L, c0 + mc, s0 + ms⟩,
      ⟨X.admits, X.cas, X.clock, X.frames, X.room, X.hears, X.method, X.code, (X.here.setHeapUsed s₂.heap s₂.slotsUsed).setVm hW'.alike, X.tail, State.WarmedH.trans X.warmed hW', X.limits, X.bytes, X.same.trans (hsame.setVm s.vm)⟩,
      ⟨g, mk, s₂, L, E, ce, rfl, rfl, hx, hce, hcv, hcl, rfl, hL, rfl, rfl⟩, ?_⟩
    show Steps p.tables e below _ (((({ U with heap := s₂.heap, slotsUsed := s₂.slotsUsed } : State).setVm s₂.vm).setTop g).pushFrame (.throwing q))
    rw [← hs₂]
    exact hsteps
end
variable {p : Program} {l : Launch} {e : Env} {R : Room} {s : State} {m : MethodId} {args : Array Value} {below : List Frame} {meth : Method} {c : Code} {T : State} {H : Heap} {locs : List Loc} {cells slots : Nat}
theorem vx_callVX (X : Stand p l e R s m args below meth c T locs cells slots) (hexec : p.tables.exec = Jvm.exec) {own C : String} {index : Nat} {y : MethodName} {bytes : ByteArray} {maxL : Nat} {ret : Option FieldType} {hh : List (Nat × Nat × Nat × Nat)}
    (hown : s.vm.findClass own = some m.cls) (hlink : (Cond.methodLink own index y).before args s = true) (hinst : (Cond.instanceMethod y).before args s = true) (hsel : (Cond.selects C y y).before args s = true)
    (hcode : (Cond.codeWith y bytes maxL ret hh).before args s = true) (hy : y.cls ≠ "java/lang/invoke/MethodHandle" ∧ y.cls ≠ "java/lang/invoke/VarHandle")
    {W9 : Nat} {Pre : Pt → Array Value → Prop} {Post : Pt → Array Value → Option Value → Pt → Prop} {PostX : Pt → Array Value → Addr → Pt → Prop} (hK : vx_Back l R p e below s args y 3 W9 Pre Post PostX)
    {b : Addr} {cellB : Cell} (hcell : T.heap[b]? = some cellB) (hobj : cellB.vm.isStatics = false) (hcls : s.vm.findClass C = some cellB.cls)
    {g : JFrame} (hg : g.method = m) (hsize : g.locals.size = c.maxLocals) {argsL rest : List Value} (hlen : ∀ sig, parseMethodDescriptor y.desc = some sig → argsL.length = sig.parameters.length)
    (hstack : g.stack = argsL.reverse ++ .ref b :: rest) (hW : 2 * g.monitorRoom + (rest.map fun v => v.category).sum ≤ W9) (hdg : decode c.code g.pc = .ok (.invokevirtual index, 3))
    (hpre : ∀ vm₁, s.WarmedH vm₁ → Pre ⟨T.setVm vm₁, locs, cells, slots⟩ (Value.ref b :: argsL).toArray) :
    (∃ (v : Option Value) (vm₁ : Vm) (B : Pt), s.WarmedH vm₁ ∧ Stand p l e R s m args below meth c B.U B.locs B.cells B.slots ∧ Post ⟨T.setVm vm₁, locs, cells, slots⟩ (Value.ref b :: argsL).toArray v B ∧
      ∀ target, Steps p.tables e below (B.U.setTop { g with pc := g.pc + 3, stack := v.toList ++ rest }) target → Steps p.tables e below (T.setTop g) target) ∨
    (∃ (q : Addr) (vm₁ : Vm) (B : Pt), s.WarmedH vm₁ ∧ Stand p l e R s m args below meth c B.U B.locs B.cells B.slots ∧ PostX ⟨T.setVm vm₁, locs, cells, slots⟩ (Value.ref b :: argsL).toArray q B ∧
      Steps p.tables e below (T.setTop g) ((B.U.setTop { g with stack := rest }).pushFrame (.throwing q))) := by
  obtain ⟨mk, methM, hnamed, hmethM, hstM, habM⟩ := Cond.instanceMethod_spec hinst
  obtain ⟨m8, methM', cM, hn8, hmethM', -, -, -, -, -, -, hsigM⟩ := Cond.codeWith_spec hcode
  cases Option.some.inj (hn8.symm.trans hnamed)
  cases hmethM.symm.trans hmethM'
  obtain ⟨c2, r2, m2, q1, q2, q3, q4, kP, hkP, hkPi⟩ := Cond.selects_spec hsel
  cases hcls.symm.trans q1
  cases (State.methodFound?_of_named hnamed hy).symm.trans q2
  cases hnamed.symm.trans q3
  have hselP : selectMethod e.platform s.vm cellB.cls mk = .method mk := by rw [Launch.admits_selectMethod X.admits]; exact q4
  obtain ⟨vm₁, X₁, hstep₁⟩ := X.invokevirtual hexec hown hlink hnamed hmethM hstM hkP hkPi hy (a := b) (cell := cellB) hcell
    (fun z h => by rw [h] at hobj; cases hobj) hselP hmethM habM hkP hkPi (g := g) hg (argsL := argsL) (rest := rest) (hlen _ hsigM) hstack hdg
  rcases hK m meth c ⟨T.setVm vm₁, locs, cells, slots⟩ { g with stack := rest } (.invokevirtual index) mk (Value.ref b :: argsL).toArray X₁ hg hsize hdg hW (X₁.named hnamed) (hpre vm₁ X₁.warmed) with ⟨v, B, X', hpost, hsteps⟩ | ⟨q, B, X', hpost, hsteps⟩
  · exact Or.inl ⟨v, vm₁, B, X₁.warmed, X', hpost, fun target h => hstep₁ _ fun acts => by rw [doInvoke_state]; exact hsteps.trans h⟩
  · exact Or.inr ⟨q, vm₁, B, X₁.warmed, X', hpost, hstep₁ _ fun acts => by rw [doInvoke_state]; exact hsteps⟩
theorem vx_callSX (X : Stand p l e R s m args below meth c T locs cells slots) (hexec : p.tables.exec = Jvm.exec) {own : String} {index : Nat} {y : MethodName} {bytes : ByteArray} {maxL : Nat} {ret : Option FieldType} {hh : List (Nat × Nat × Nat × Nat)}
    (hown : s.vm.findClass own = some m.cls) (hlink : (Cond.methodLink own index y).before args s = true) (hstat : (Cond.static y).before args s = true) (hinit : (Cond.initialized y.cls).before args s = true)
    (hcode : (Cond.codeWith y bytes maxL ret hh).before args s = true) (hy : y.cls ≠ "java/lang/invoke/MethodHandle" ∧ y.cls ≠ "java/lang/invoke/VarHandle")
    {W9 : Nat} {Pre : Pt → Array Value → Prop} {Post : Pt → Array Value → Option Value → Pt → Prop} {PostX : Pt → Array Value → Addr → Pt → Prop} (hK : vx_Back l R p e below s args y 3 W9 Pre Post PostX)
    {g : JFrame} (hg : g.method = m) (hsize : g.locals.size = c.maxLocals) {argsL rest : List Value} (hlen : ∀ sig, parseMethodDescriptor y.desc = some sig → argsL.length = sig.parameters.length)
    (hstack : g.stack = argsL.reverse ++ rest) (hW : 2 * g.monitorRoom + (rest.map fun v => v.category).sum ≤ W9) (hdg : decode c.code g.pc = .ok (.invokestatic index, 3))
    (hpre : ∀ vm₁, s.WarmedH vm₁ → Pre ⟨T.setVm vm₁, locs, cells, slots⟩ argsL.toArray) :
    (∃ (v : Option Value) (vm₁ : Vm) (B : Pt), s.WarmedH vm₁ ∧ Stand p l e R s m args below meth c B.U B.locs B.cells B.slots ∧ Post ⟨T.setVm vm₁, locs, cells, slots⟩ argsL.toArray v B ∧
      ∀ target, Steps p.tables e below (B.U.setTop { g with pc := g.pc + 3, stack := v.toList ++ rest }) target → Steps p.tables e below (T.setTop g) target) ∨
    (∃ (q : Addr) (vm₁ : Vm) (B : Pt), s.WarmedH vm₁ ∧ Stand p l e R s m args below meth c B.U B.locs B.cells B.slots ∧ PostX ⟨T.setVm vm₁, locs, cells, slots⟩ argsL.toArray q B ∧
      Steps p.tables e below (T.setTop g) ((B.U.setTop { g with stack := rest }).pushFrame (.throwing q))) := by
  obtain ⟨mk, methM, cM, hnamed, hmethM, -, -, -, -, -, -, hsigM⟩ := Cond.codeWith_spec hcode
  have hstatic : methM.isStatic = true := Cond.static_spec hnamed hmethM hstat
  obtain ⟨kP, hkP, -⟩ := className_of_methodNamed hnamed
  have hinitP : kP.init = .initialized := Cond.initialized_spec (findClass_of_methodNamed hnamed) hkP hinit
  obtain ⟨vm₁, X₁, hstep₁⟩ := X.invokestatic hexec hown hlink hnamed hmethM hstatic hkP hinitP hy (g := g) hg (argsL := argsL) (rest := rest) (hlen _ hsigM) hstack hdg
  rcases hK m meth c ⟨T.setVm vm₁, locs, cells, slots⟩ { g with stack := rest } (.invokestatic index) mk argsL.toArray X₁ hg hsize hdg hW (X₁.named hnamed) (hpre vm₁ X₁.warmed) with ⟨v, B, X', hpost, hsteps⟩ | ⟨q, B, X', hpost, hsteps⟩
  · exact Or.inl ⟨v, vm₁, B, X₁.warmed, X', hpost, fun target h => hstep₁ _ fun acts => by rw [doInvoke_state]; exact hsteps.trans h⟩
  · exact Or.inr ⟨q, vm₁, B, X₁.warmed, X', hpost, hstep₁ _ fun acts => by rw [doInvoke_state]; exact hsteps⟩
theorem vx_callVW (X : Stand p l e R s m args below meth c T locs cells slots) (hexec : p.tables.exec = Jvm.exec) {own C : String} {index : Nat} {y : MethodName} {bytes : ByteArray} {maxL : Nat} {ret : Option FieldType} {hh : List (Nat × Nat × Nat × Nat)}
    (hown : s.vm.findClass own = some m.cls) (hlink : (Cond.methodLink own index y).before args s = true) (hinst : (Cond.instanceMethod y).before args s = true) (hsel : (Cond.selects C y y).before args s = true)
    (hcode : (Cond.codeWith y bytes maxL ret hh).before args s = true) (hy : y.cls ≠ "java/lang/invoke/MethodHandle" ∧ y.cls ≠ "java/lang/invoke/VarHandle")
    {W9 : Nat} {Pre : Pt → Array Value → Prop} {Post : Pt → Array Value → Option Value → Pt → Prop} (hK : Back l R p e below s args y 3 W9 Pre Post)
    {b : Addr} {cellB : Cell} (hcell : T.heap[b]? = some cellB) (hobj : cellB.vm.isStatics = false) (hcls : s.vm.findClass C = some cellB.cls)
    {g : JFrame} (hg : g.method = m) (hsize : g.locals.size = c.maxLocals) {argsL rest : List Value} (hlen : ∀ sig, parseMethodDescriptor y.desc = some sig → argsL.length = sig.parameters.length)
    (hstack : g.stack = argsL.reverse ++ .ref b :: rest) (hW : 2 * g.monitorRoom + (rest.map fun v => v.category).sum ≤ W9) (hdg : decode c.code g.pc = .ok (.invokevirtual index, 3))
    (hpre : ∀ vm₁, s.WarmedH vm₁ → Pre ⟨T.setVm vm₁, locs, cells, slots⟩ (Value.ref b :: argsL).toArray) :
    ∃ (v : Option Value) (vm₁ : Vm) (B : Pt), s.WarmedH vm₁ ∧ Stand p l e R s m args below meth c B.U B.locs B.cells B.slots ∧ Post ⟨T.setVm vm₁, locs, cells, slots⟩ (Value.ref b :: argsL).toArray v B ∧
      ∀ target, Steps p.tables e below (B.U.setTop { g with pc := g.pc + 3, stack := v.toList ++ rest }) target → Steps p.tables e below (T.setTop g) target := by
  obtain ⟨mk, methM, hnamed, hmethM, hstM, habM⟩ := Cond.instanceMethod_spec hinst
  obtain ⟨m8, methM', cM, hn8, hmethM', -, -, -, -, -, -, hsigM⟩ := Cond.codeWith_spec hcode
  cases Option.some.inj (hn8.symm.trans hnamed)
  cases hmethM.symm.trans hmethM'
  obtain ⟨c2, r2, m2, q1, q2, q3, q4, kP, hkP, hkPi⟩ := Cond.selects_spec hsel
  cases hcls.symm.trans q1
  cases (State.methodFound?_of_named hnamed hy).symm.trans q2
  cases hnamed.symm.trans q3
  have hselP : selectMethod e.platform s.vm cellB.cls mk = .method mk := by rw [Launch.admits_selectMethod X.admits]; exact q4
  obtain ⟨vm₁, X₁, hstep₁⟩ := X.invokevirtual hexec hown hlink hnamed hmethM hstM hkP hkPi hy (a := b) (cell := cellB) hcell
    (fun z h => by rw [h] at hobj; cases hobj) hselP hmethM habM hkP hkPi (g := g) hg (argsL := argsL) (rest := rest) (hlen _ hsigM) hstack hdg
  obtain ⟨v, B, X', hpost, hsteps⟩ := hK m meth c ⟨T.setVm vm₁, locs, cells, slots⟩ { g with stack := rest } (.invokevirtual index) mk (Value.ref b :: argsL).toArray X₁ hg hsize hdg hW (X₁.named hnamed) (hpre vm₁ X₁.warmed)
  exact ⟨v, vm₁, B, X₁.warmed, X', hpost, fun target h => hstep₁ _ fun acts => by rw [doInvoke_state]; exact hsteps.trans h⟩
abbrev vx_CVW (R : Room) (s : State) (args : Array Value) (own C : String) (index : Nat) (y : MethodName) (bytes : ByteArray) (maxL : Nat) (ret : Option FieldType) (hh : List (Nat × Nat × Nat × Nat)) (ws : List Cond) (rm : Room) (mc ms n : Nat) : Prop :=
  (rm.cells = mc ∧ rm.slots = ms ∧ rm.frames + 1 ≤ R.frames ∧ 8 + (maxL + 11) + rm.locals ≤ R.locals ∧ (∀ w ∈ ws, ∀ (a' : Array Value) (U : State), s.WarmedH U.vm → w.before a' U = true) ∧ Cond.codeWith y bytes maxL ret hh ∈ ws) ∧
  (Cond.codeWith y bytes maxL ret hh).before args s = true ∧ (Cond.initialized y.cls).before args s = true ∧ (y.cls ≠ "java/lang/invoke/MethodHandle" ∧ y.cls ≠ "java/lang/invoke/VarHandle") ∧
  (∀ sig, parseMethodDescriptor y.desc = some sig → n = sig.parameters.length) ∧ (Cond.methodLink own index y).before args s = true ∧ (Cond.instanceMethod y).before args s = true ∧ (Cond.selects C y y).before args s = true
theorem vx_cwVW {own C : String} {index maxL mc ms : Nat} {y : MethodName} {bytes : ByteArray} {ret : Option FieldType} {hh : List (Nat × Nat × Nat × Nat)} {Ts ws ws' : List Cond} {rm : Room} (n : Nat) (ht : ∀ w ∈ Ts, w.before args s = true) (hT : GoodIn Ts (wsV own index C y ws)) (hw : ws = Cond.codeWith y bytes maxL ret hh :: ws') (hrc : rm.cells = mc) (hrs : rm.slots = ms)
    (hd : y.cls = C ∧ y.cls ≠ "java/lang/invoke/MethodHandle" ∧ y.cls ≠ "java/lang/invoke/VarHandle" ∧ (parseMethodDescriptor y.desc).map (fun d => d.parameters.length) = some n) (hR : rm.frames + 1 ≤ R.frames ∧ 8 + (maxL + 11) + rm.locals ≤ R.locals) :
    vx_CVW R s args own C index y bytes maxL ret hh ws rm mc ms n := by
  obtain ⟨hC, hd⟩ := hd
  subst hC
  have ok : ∀ w ∈ wsV own index y.cls y ws, w.before args s = true := fun w h => ht w (hT w h).1
  have hG : GoodIn Ts ws := fun w h => hT w (by unfold wsV; exact List.mem_append_right _ h)
  have hc : Cond.codeWith y bytes maxL ret hh ∈ ws := by rw [hw]; exact List.mem_cons_self
  refine ⟨⟨hrc, hrs, hR.1, hR.2, pay_in ht hG, hc⟩, ht _ (hG _ hc).1, ok _ (by simp [wsV]), ⟨hd.1, hd.2.1⟩, fun sig h => ?_, ok _ (by simp [wsV]), ok _ (by simp [wsV]), ok _ (by simp [wsV])⟩
  have h2 := hd.2.2
  rw [h] at h2
  exact (Option.some.inj h2).symm
theorem vx_runVW {y : MethodName} {bytes cc : ByteArray} {maxL nL mc ms n index : Nat} {ret : Option FieldType} {hh : List (Nat × Nat × Nat × Nat)} {ws : List Cond} {rm : Room} {Pc : Array Value → State → Prop} {Qc : Array Value → State → Outcome → State → Prop} {free : Addr → Prop} {Ts : List Cond} {own C : String} {b : Addr} {As rest : List Value} {g : JFrame}
    (S : CallFix p m c cc nL s args Ts own) (hM : Met l y ws rm Pc Qc mc ms free) (cw : vx_CVW R s args own C index y bytes maxL ret hh ws rm mc ms n) (hp : PreV s H C b Pc As)
    (hg : g.method = m) (hn : As.length = n) (hsize : g.locals.size = nL) (hstack : g.stack = As.reverse ++ .ref b :: rest) (hW : 2 * g.monitorRoom + (rest.map fun v => v.category).sum ≤ 8) (hdg : decode cc g.pc = .ok (.invokevirtual index, 3)) (hf : cells + mc ≤ R.cells ∧ slots + ms ≤ R.slots) :
    va_Run p l e R s m args below meth c H locs cells slots mc ms g rest (Qc (Value.ref b :: As).toArray) free := by
  obtain ⟨⟨hrc, hrs, hfr, hlo, hws, hcw⟩, hcode, hini, hy, hlen, hl, hin, hse⟩ := cw
  have hK : Back l R p e below s args y 3 8 (PreOf R mc ms Pc) (PostOf Qc mc ms free) := va_backW (hh := hh) (bytes := bytes) (maxL := maxL) (ret := ret) hM hp.1 hrc hrs hfr hlo hws hcw (fun a' U hW => word_at hW (Or.inl (by first | rfl | simp [Cond.onTables, Cond.keeps, Cond.steady])) hini)
  obtain ⟨hx, hb, hml, ho, -⟩ := S
  obtain ⟨-, ⟨cellB, hcB, hoB, hclB⟩, hPc⟩ := hp
  intro T hT X
  obtain ⟨v, vm₁, ⟨U', l2, c2, s2⟩, hW₁, X', ⟨g', mk, t, L, e1, e2, hq, h1, hL, h2, h3⟩, st⟩ := vx_callVW X hx (C := C) (hh := hh) (bytes := bytes) (maxL := maxL) (ret := ret) ho hl hin hse hcode hy hK (by rw [hT]; exact hcB) hoB hclB hg (hsize.trans hml.symm) (argsL := As) (rest := rest) (fun sig h => hn.trans (hlen sig h)) hstack hW (by rw [hb]; exact hdg)
    (fun vm₁ hW₁ => ⟨hf.1, hf.2, hPc (T.setVm vm₁) hT hW₁⟩)
  dsimp only [Pt.U, Pt.locs, Pt.cells, Pt.slots] at X' e1 e2 h1 h2 h3 st
  subst h1; subst h2; subst h3
  exact ⟨v, (T.setVm vm₁).calling g' mk (Value.ref b :: As).toArray, t, U', L, hT, X', hL, e1, e2, hq, st⟩
section
variable {y : MethodName} {bytes cc : ByteArray} {maxL nL mc ms n index : Nat} {ret : Option FieldType} {ws : List Cond} {rm : Room} {Pc : Array Value → State → Prop} {Qc : Array Value → State → Outcome → State → Prop} {XC : String → State → State → Prop} {free : Addr → Prop} {Ts : List Cond} {own C : String} {b : Addr} {As rest : List Value} {g : JFrame}
theorem vx_runVX {hh : List (Nat × Nat × Nat × Nat)} (S : CallFix p m c cc nL s args Ts own) (hM : vx_Met l y ws rm Pc Qc XC mc ms free) (cw : vx_CVW R s args own C index y bytes maxL ret hh ws rm mc ms n) (hp : PreV s H C b Pc As)
    (hg : g.method = m) (hn : As.length = n) (hsize : g.locals.size = nL) (hstack : g.stack = As.reverse ++ .ref b :: rest) (hW : 2 * g.monitorRoom + (rest.map fun v => v.category).sum ≤ 8) (hdg : decode cc g.pc = .ok (.invokevirtual index, 3)) (hf : cells + mc ≤ R.cells ∧ slots + ms ≤ R.slots) :
    vx_Run p l e R s m args below meth c H locs cells slots mc ms g rest (Qc (Value.ref b :: As).toArray) XC free := by
  obtain ⟨⟨hrc, hrs, hfr, hlo, hws, hcw⟩, hcode, hini, hy, hlen, hl, hin, hse⟩ := cw
  have hK : vx_Back l R p e below s args y 3 8 (PreOf R mc ms Pc) (PostOf Qc mc ms free) (vx_Post XC mc ms free) := vx_backW (hh := hh) (bytes := bytes) (maxL := maxL) (ret := ret) hM hp.1 hrc hrs hfr hlo hws hcw (fun a' U hW => word_at hW (Or.inl (by first | rfl | simp [Cond.onTables, Cond.keeps, Cond.steady])) hini)
  obtain ⟨hx, hb, hml, ho, -⟩ := S
  obtain ⟨-, ⟨cellB, hcB, hoB, hclB⟩, hPc⟩ := hp
  intro T hT X
  rcases vx_callVX X hx (C := C) (hh := hh) (bytes := bytes) (maxL := maxL) (ret := ret) ho hl hin hse hcode hy hK (by rw [hT]; exact hcB) hoB hclB hg (hsize.trans hml.symm) (argsL := As) (rest := rest) (fun sig h => hn.trans (hlen sig h)) hstack hW (by rw [hb]; exact hdg)
    (fun vm₁ hW₁ => ⟨hf.1, hf.2, hPc (T.setVm vm₁) hT hW₁⟩) with ⟨v, vm₁, ⟨U', l2, c2, s2⟩, hW₁, X', ⟨g', mk, t, L, e1, e2, hq, h1, hL, h2, h3⟩, st⟩ | ⟨q, vm₁, ⟨U', l2, c2, s2⟩, hW₁, X', ⟨g', mk, t, L, E, ce, e1, e2, hq, hce, hcv, hcl, h1, hL, h2, h3⟩, st⟩
  · dsimp only [Pt.U, Pt.locs, Pt.cells, Pt.slots] at X' e1 e2 h1 h2 h3 st
    subst h1; subst h2; subst h3
    exact Or.inl ⟨v, (T.setVm vm₁).calling g' mk (Value.ref b :: As).toArray, t, U', L, hT, X', hL, e1, e2, hq, st⟩
  · dsimp only [Pt.U, Pt.locs, Pt.cells, Pt.slots] at X' e1 e2 h1 h2 h3 st hcl
    subst h1; subst h2; subst h3
    exact Or.inr ⟨q, (T.setVm vm₁).calling g' mk (Value.ref b :: As).toArray, t, U', L, E, ce, hT, X', hL, e1, e2, hq, hce, hcv, vx_cls hW₁ hcl, st⟩
theorem vx_runSX {hh : List (Nat × Nat × Nat × Nat)} (S : CallFix p m c cc nL s args Ts own) (hM : vx_Met l y ws rm Pc Qc XC mc ms free) (cw : vx_CSW R s args own index y bytes maxL ret hh ws rm mc ms n) (hp : PreS s H Pc As)
    (hg : g.method = m) (hn : As.length = n) (hsize : g.locals.size = nL) (hstack : g.stack = As.reverse ++ rest) (hW : 2 * g.monitorRoom + (rest.map fun v => v.category).sum ≤ 8) (hdg : decode cc g.pc = .ok (.invokestatic index, 3)) (hf : cells + mc ≤ R.cells ∧ slots + ms ≤ R.slots) :
    vx_Run p l e R s m args below meth c H locs cells slots mc ms g rest (Qc As.toArray) XC free := by
  obtain ⟨⟨hrc, hrs, hfr, hlo, hws, hcw⟩, hcode, hini, hy, hlen, hl, hstt⟩ := cw
  have hK : vx_Back l R p e below s args y 3 8 (PreOf R mc ms Pc) (PostOf Qc mc ms free) (vx_Post XC mc ms free) := vx_backW (hh := hh) (bytes := bytes) (maxL := maxL) (ret := ret) hM hp.1 hrc hrs hfr hlo hws hcw (fun a' U hW => word_at hW (Or.inl (by first | rfl | simp [Cond.onTables, Cond.keeps, Cond.steady])) hini)
  obtain ⟨hx, hb, hml, ho, -⟩ := S
  intro T hT X
  rcases vx_callSX X hx (hh := hh) (bytes := bytes) (maxL := maxL) (ret := ret) ho hl hstt hini hcode hy hK hg (hsize.trans hml.symm) (argsL := As) (rest := rest) (fun sig h => hn.trans (hlen sig h)) hstack hW (by rw [hb]; exact hdg)
    (fun vm₁ hW₁ => ⟨hf.1, hf.2, hp.2 (T.setVm vm₁) hT hW₁⟩) with ⟨v, vm₁, ⟨U', l2, c2, s2⟩, hW₁, X', ⟨g', mk, t, L, e1, e2, hq, h1, hL, h2, h3⟩, st⟩ | ⟨q, vm₁, ⟨U', l2, c2, s2⟩, hW₁, X', ⟨g', mk, t, L, E, ce, e1, e2, hq, hce, hcv, hcl, h1, hL, h2, h3⟩, st⟩
  · dsimp only [Pt.U, Pt.locs, Pt.cells, Pt.slots] at X' e1 e2 h1 h2 h3 st
    subst h1; subst h2; subst h3
    exact Or.inl ⟨v, (T.setVm vm₁).calling g' mk As.toArray, t, U', L, hT, X', hL, e1, e2, hq, st⟩
  · dsimp only [Pt.U, Pt.locs, Pt.cells, Pt.slots] at X' e1 e2 h1 h2 h3 st hcl
    subst h1; subst h2; subst h3
    exact Or.inr ⟨q, (T.setVm vm₁).calling g' mk As.toArray, t, U', L, E, ce, hT, X', hL, e1, e2, hq, hce, hcv, vx_cls hW₁ hcl, st⟩
end
end VXH
theorem vx_ofWH {l : Launch} {y : MethodName} {ws ws' : List Cond} {rm : Room} {Pc : Array Value → State → Prop} {Qc : Array Value → State → Outcome → State → Prop} {XC : String → State → State → Prop} {mc ms : Nat} {free : Addr → Prop} {cc : ByteArray} {maxL : Nat} {ret : Option FieldType} {hh : List (Nat × Nat × Nat × Nat)}
    (hy : plainName y.cls = true) (hw : ws = Cond.codeWith y cc maxL ret hh :: ws')
    (body : ∀ p e s m args below meth c s₁, BodyLoose p l y (headSpec ws rm) cc maxL ret e s m args below meth c s₁ → c.maxLocals = maxL → Pc args s →
      W p l e (headSpec ws rm).room s m args below meth c s.heap [] 0 0 (vx_MQ below Qc XC args s mc ms free) (entryFrame m args maxL)) : vx_Met l y ws rm Pc Qc XC mc ms free := by
  refine MetFree.of_bodyS (code := cc) (maxLocals := maxL) (ret := ret) hy ?_ ?_
  · intro args s m h hn
    obtain ⟨m9, meth, c, hn9, h1, h2, h3, h4, -, h5, h6, -⟩ := Cond.codeWith_spec (atoms_spec (ws := ws) h _ (by rw [hw]; exact List.mem_cons_self))
    cases hn.symm.trans hn9
    exact ⟨meth, c, h1, h2, h3, h4, h5, h6⟩
  · intro p e s m args below meth c s₁ B hml hP _
    have hh0 : s₁.heap = s.heap := by rw [B.state]; rfl
    obtain ⟨t, a1, o, b1, b2, b3⟩ := body p e s m args below meth c s₁ B hml hP s₁ hh0 (Stand.of_body B)
    exact ⟨t, o, a1, b1, b2, b3⟩
/-! ===== END ===== -/

/-! THE CLAIM OUT OF ONE WALK OF THE LAW'S BODY. Your part is whole_start (and what it stands on); all else here is the same for every law, but numbers. -/
def R_law : String := "FutureWishesLaw"
def lw_P (b : Addr) (xs : List Int32) (args : Array Value) (s : State) : Prop := args = #[.ref b] ∧ s.IntsAt b xs ∧ xs.length ≤ 2048 ∧ (Jvm.Cond.and given_1 narrow_1).before args s = true
/-- what a walk over the start with the record d0 says of its end, said of the start itself -/
theorem lw_closed {s t : State} {o : Outcome} {d0 : Drawn} {L : List Loc} {k n : Nat} (hd0 : s.drawn.sameBut d0 lw_cs) (hv : ∃ v, o = .returned v) (hW : (s.setDrawn d0).WarmedH t.vm) (hs : (s.setDrawn d0).sameButNew ({ t with vm := s.vm } : State) L k n) : State.butDraws s t lw_cs (fun t1 => Framed s o t1 L k n) := by
  have h2 : t.drawn = d0 := congrArg State.drawn hs.1
  refine ⟨⟨hv, hW, State.sameButNew.setDrawn hs s.drawn⟩, ?_, by decide⟩
  rw [h2]
  exact hd0
def lw_Q (_ : Array Value) (s : State) (o : Outcome) (t : State) : Prop := o = .returned (some (.int 1)) ∧ State.butDraws s t lw_cs (fun t1 => Framed s o t1 [] 601024 7293034)
def lw_Z (below : List Frame) (a : Array Value) (s : State) : State → Prop := fun t => ∃ o, t.status = .running ∧ Ended t below o ∧ lw_Q a s o t
/-- the law's own end, with 1 on the stack, nothing written that was there before, its room as the claim has it; d0: the record of draws at this point (at the entry s.drawn: begin with 'refine W.base ?_' and 'have hd0 := Drawn.sameBut.refl s.drawn lw_cs') -/
theorem lw_ret {p : Program} {l : Launch} {e : Env} {s : State} {m : MethodId} {below : List Frame} {meth : Method} {c : Code} {b : Nat} {d0 : Drawn} (hd0 : s.drawn.sameBut d0 lw_cs) (hx : p.tables.exec = Jvm.exec) (hb : c.code = code) (hr : meth.sig.returnType = ret) (hlocks : meth.locks = false) {pc : Nat} {H : Heap} {ls : Array Slot} (hdg : decode code pc = .ok (.ireturn, 1)) : W p l e room_1 (s.setDrawn d0) m #[Value.ref b] below meth c H [] 601024 7293034 (lw_Z below #[Value.ref b] s) (F0 m pc ls [.int 1]) := by
  intro T hT X
  obtain ⟨fs, hret, hrun, hended, hW, hframe⟩ := X.leave (v := some (.int 1)) (hlocks := hlocks) (fun h => by rw [hr] at h; cases h)
  have hmeth' : T.vm.method? m = some meth := X.method'
  refine ⟨T.setFrames fs, ?_, .returned (some (.int 1)), hrun, hended, rfl, lw_closed hd0 ⟨_, rfl⟩ hW hframe⟩
  jvm_step X.here [X.here.top, hx, hb, hdg, hmeth', hr, ret, narrow_b1]
  (try refine ⟨rfl, ?_⟩); (try refine ⟨rfl, ?_⟩)
  first | (intro acts; rw [hret _ acts rfl rfl rfl]) | rw [hret _ _ rfl rfl rfl]
  exact Steps.refl _
/-- what holds at the law's entry: the machine, the code, the tables' words (any of lw_tbl by 'hts w (by decide +kernel)'), the script of L ints xs at the cell b, what the Statement gives of the start (any of its parts by flat_of_before) -/
def lw_At (p : Program) (s : State) (m : MethodId) (meth : Method) (c : Code) (b L : Nat) (xs : Nat → Int32) : Prop :=
  p.tables.exec = Jvm.exec ∧ c.code = code ∧ meth.sig.returnType = ret ∧ c.maxLocals = 9 ∧ s.vm.findClass R_law = some m.cls ∧ (∀ w ∈ lw_tbl, w.before #[Value.ref b] s = true) ∧ va_X b L xs s s.heap ∧ b < s.heap.size ∧ meth.locks = false ∧ (Jvm.Cond.and given_1 narrow_1).before #[Value.ref b] s = true
end
section
def RX0 : String := "FutureWishes$Futures"
def TX0 : u_T := fun k => match k with
  | 0 => ("FutureWishes$Futures", "state", "LFutureWishes$State;", true)
  | 1 => ("FutureWishes$Futures", "all", "I", false)
  | 2 => ("FutureWishes$Futures", "live", "I", false)
  | 3 => ("FutureWishes$Futures", "rounds", "I", false)
  | _ => ("FutureWishes$Futures", "goals", "I", false)
def tyX0 : Nat → FieldType := fun k => match k with
  | 0 => .object "FutureWishes$State"
  | 1 => .int
  | 2 => .int
  | 3 => .int
  | _ => .int
theorem nmX0 : ∀ a, a < 5 → ∀ b, b < 5 → a ≠ b → (TX0 a).2.1 ≠ (TX0 b).2.1 := by decide +kernel
theorem tyX0_ok : ∀ k, k < 5 → parseFieldDescriptor (TX0 k).2.2.1 = some (tyX0 k) := by decide +kernel
abbrev cX0_init : ByteArray := prog_2_method_1_code
def yX0_init : MethodName := ⟨RX0, "<init>", "(LFutureWishes$State;)V"⟩
abbrev cX0_look : ByteArray := prog_2_method_2_code
def yX0_look : MethodName := ⟨RX0, "look", "()V"⟩
abbrev cX0_onSomeWay : ByteArray := prog_2_method_3_code
def yX0_onSomeWay : MethodName := ⟨RX0, "onSomeWay", "(CII)I"⟩
abbrev cX0_onSomeWayNot : ByteArray := prog_2_method_4_code
def yX0_onSomeWayNot : MethodName := ⟨RX0, "onSomeWayNot", "(CII)I"⟩
abbrev cX0_until : ByteArray := prog_2_method_5_code
def yX0_until : MethodName := ⟨RX0, "until", "(II)I"⟩
abbrev cX0_always : ByteArray := prog_2_method_6_code
def yX0_always : MethodName := ⟨RX0, "always", "(I)I"⟩
def RX1 : String := "FutureWishes$History"
def TX1 : u_T := fun k => match k with
  | 0 => ("FutureWishes$History", "size", "I", false)
  | 1 => ("FutureWishes$History", "oldest", "I", false)
  | _ => ("FutureWishes$History", "saved", "[LFutureWishes$State;", true)
def tyX1 : Nat → FieldType := fun k => match k with
  | 0 => .int
  | 1 => .int
  | _ => .array (.object "FutureWishes$State")
theorem nmX1 : ∀ a, a < 3 → ∀ b, b < 3 → a ≠ b → (TX1 a).2.1 ≠ (TX1 b).2.1 := by decide +kernel
theorem tyX1_ok : ∀ k, k < 3 → parseFieldDescriptor (TX1 k).2.2.1 = some (tyX1 k) := by decide +kernel
abbrev cX1_init : ByteArray := prog_3_method_1_code
def yX1_init : MethodName := ⟨RX1, "<init>", "()V"⟩
abbrev cX1_save : ByteArray := prog_3_method_2_code
def yX1_save : MethodName := ⟨RX1, "save", "(LFutureWishes$State;)V"⟩
abbrev cX1_restore : ByteArray := prog_3_method_3_code
def yX1_restore : MethodName := ⟨RX1, "restore", "(LFutureWishes$State;)V"⟩
def RX2 : String := "FutureWishes$Meaning"
def TX2 : u_T := fun k => match k with
  | 0 => ("FutureWishes$Meaning", "state", "LFutureWishes$State;", true)
  | 1 => ("FutureWishes$Meaning", "futures", "LFutureWishes$Futures;", true)
  | 2 => ("FutureWishes$Meaning", "length", "I", false)
  | 3 => ("FutureWishes$Meaning", "signs", "[C", true)
  | 4 => ("FutureWishes$Meaning", "lengths", "[I", true)
  | 5 => ("FutureWishes$Meaning", "depths", "[I", true)
  | 6 => ("FutureWishes$Meaning", "sets", "[I", true)
  | _ => ("FutureWishes$Meaning", "rounds", "[I", true)
def tyX2 : Nat → FieldType := fun k => match k with
  | 0 => .object "FutureWishes$State"
  | 1 => .object "FutureWishes$Futures"
  | 2 => .int
  | 3 => .array .char
  | 4 => .array .int
  | 5 => .array .int
  | 6 => .array .int
  | _ => .array .int
theorem nmX2 : ∀ a, a < 8 → ∀ b, b < 8 → a ≠ b → (TX2 a).2.1 ≠ (TX2 b).2.1 := by decide +kernel
theorem tyX2_ok : ∀ k, k < 8 → parseFieldDescriptor (TX2 k).2.2.1 = some (tyX2 k) := by decide +kernel
abbrev cX2_init : ByteArray := prog_4_method_1_code
def yX2_init : MethodName := ⟨RX2, "<init>", "(LFutureWishes$State;)V"⟩
abbrev cX2_live : ByteArray := prog_4_method_2_code
def yX2_live : MethodName := ⟨RX2, "live", "()I"⟩
abbrev cX2_find : ByteArray := prog_4_method_3_code
def yX2_find : MethodName := ⟨RX2, "find", "(I)I"⟩
abbrev cX2_readSigns : ByteArray := prog_4_method_4_code
def yX2_readSigns : MethodName := ⟨RX2, "readSigns", "(I)V"⟩
abbrev cX2_putShape : ByteArray := prog_4_method_5_code
def yX2_putShape : MethodName := ⟨RX2, "putShape", "(III)V"⟩
abbrev cX2_findSets : ByteArray := prog_4_method_6_code
def yX2_findSets : MethodName := ⟨RX2, "findSets", "()V"⟩
abbrev cX2_ofWish : ByteArray := prog_4_method_7_code
def yX2_ofWish : MethodName := ⟨RX2, "ofWish", "(I)I"⟩
abbrev cX2_ofSign : ByteArray := prog_4_method_8_code
def yX2_ofSign : MethodName := ⟨RX2, "ofSign", "(II)I"⟩
abbrev cX2_signAt : ByteArray := prog_4_method_9_code
def yX2_signAt : MethodName := ⟨RX2, "signAt", "(I)C"⟩
abbrev cX2_setAt : ByteArray := prog_4_method_10_code
def yX2_setAt : MethodName := ⟨RX2, "setAt", "(I)I"⟩
abbrev cX2_behind : ByteArray := prog_4_method_11_code
def yX2_behind : MethodName := ⟨RX2, "behind", "(I)I"⟩
abbrev cX2_depthAt : ByteArray := prog_4_method_12_code
def yX2_depthAt : MethodName := ⟨RX2, "depthAt", "(I)I"⟩
abbrev cX2_allRounds : ByteArray := prog_4_method_13_code
def yX2_allRounds : MethodName := ⟨RX2, "allRounds", "()I"⟩
def RX3 : String := "FutureWishes$State"
def TX3 : u_T := fun k => match k with
  | 0 => ("FutureWishes$State", "worlds", "I", false)
  | 1 => ("FutureWishes$State", "fairLetter", "I", false)
  | 2 => ("FutureWishes$State", "letters", "[I", true)
  | 3 => ("FutureWishes$State", "steps", "[I", true)
  | 4 => ("FutureWishes$State", "lengths", "[I", true)
  | _ => ("FutureWishes$State", "signs", "[C", true)
def tyX3 : Nat → FieldType := fun k => match k with
  | 0 => .int
  | 1 => .int
  | 2 => .array .int
  | 3 => .array .int
  | 4 => .array .int
  | _ => .array .char
theorem nmX3 : ∀ a, a < 6 → ∀ b, b < 6 → a ≠ b → (TX3 a).2.1 ≠ (TX3 b).2.1 := by decide +kernel
theorem tyX3_ok : ∀ k, k < 6 → parseFieldDescriptor (TX3 k).2.2.1 = some (tyX3 k) := by decide +kernel
abbrev cX3_init : ByteArray := prog_5_method_1_code
def yX3_init : MethodName := ⟨RX3, "<init>", "()V"⟩
abbrev cX3_copyFrom : ByteArray := prog_5_method_2_code
def yX3_copyFrom : MethodName := ⟨RX3, "copyFrom", "(LFutureWishes$State;)V"⟩
abbrev cX3_hasWorld : ByteArray := prog_5_method_3_code
def yX3_hasWorld : MethodName := ⟨RX3, "hasWorld", "(I)Z"⟩
abbrev cX3_allWorlds : ByteArray := prog_5_method_4_code
def yX3_allWorlds : MethodName := ⟨RX3, "allWorlds", "()I"⟩
abbrev cX3_lettersOf : ByteArray := prog_5_method_5_code
def yX3_lettersOf : MethodName := ⟨RX3, "lettersOf", "(I)I"⟩
abbrev cX3_stepsFrom : ByteArray := prog_5_method_6_code
def yX3_stepsFrom : MethodName := ⟨RX3, "stepsFrom", "(I)I"⟩
abbrev cX3_withLetter : ByteArray := prog_5_method_7_code
def yX3_withLetter : MethodName := ⟨RX3, "withLetter", "(I)I"⟩
abbrev cX3_leadingInto : ByteArray := prog_5_method_8_code
def yX3_leadingInto : MethodName := ⟨RX3, "leadingInto", "(I)I"⟩
abbrev cX3_countSteps : ByteArray := prog_5_method_9_code
def yX3_countSteps : MethodName := ⟨RX3, "countSteps", "()I"⟩
abbrev cX3_putWorld : ByteArray := prog_5_method_10_code
def yX3_putWorld : MethodName := ⟨RX3, "putWorld", "(I)I"⟩
abbrev cX3_dropWorld : ByteArray := prog_5_method_11_code
def yX3_dropWorld : MethodName := ⟨RX3, "dropWorld", "(I)V"⟩
abbrev cX3_turnStep : ByteArray := prog_5_method_12_code
def yX3_turnStep : MethodName := ⟨RX3, "turnStep", "(II)V"⟩
abbrev cX3_turnLetter : ByteArray := prog_5_method_13_code
def yX3_turnLetter : MethodName := ⟨RX3, "turnLetter", "(II)V"⟩
abbrev cX3_closeRing : ByteArray := prog_5_method_14_code
def yX3_closeRing : MethodName := ⟨RX3, "closeRing", "()V"⟩
abbrev cX3_lengthOf : ByteArray := prog_5_method_15_code
def yX3_lengthOf : MethodName := ⟨RX3, "lengthOf", "(I)I"⟩
abbrev cX3_signAt : ByteArray := prog_5_method_16_code
def yX3_signAt : MethodName := ⟨RX3, "signAt", "(II)C"⟩
abbrev cX3_putSign : ByteArray := prog_5_method_17_code
def yX3_putSign : MethodName := ⟨RX3, "putSign", "(IIC)V"⟩
abbrev cX3_putLength : ByteArray := prog_5_method_18_code
def yX3_putLength : MethodName := ⟨RX3, "putLength", "(II)V"⟩
abbrev cX3_putWish : ByteArray := prog_5_method_19_code
def yX3_putWish : MethodName := ⟨RX3, "putWish", "(ILFutureWishes$Text;)V"⟩
abbrev cX3_putNot : ByteArray := prog_5_method_20_code
def yX3_putNot : MethodName := ⟨RX3, "putNot", "(I)V"⟩
abbrev cX3_dropNot : ByteArray := prog_5_method_21_code
def yX3_dropNot : MethodName := ⟨RX3, "dropNot", "(I)V"⟩
abbrev cX3_dropWish : ByteArray := prog_5_method_22_code
def yX3_dropWish : MethodName := ⟨RX3, "dropWish", "(I)I"⟩
abbrev cX3_countWishes : ByteArray := prog_5_method_23_code
def yX3_countWishes : MethodName := ⟨RX3, "countWishes", "()I"⟩
abbrev cX3_countSigns : ByteArray := prog_5_method_24_code
def yX3_countSigns : MethodName := ⟨RX3, "countSigns", "()I"⟩
def RX4 : String := "FutureWishes$Text"
def TX4 : u_T := fun k => match k with
  | 0 => ("FutureWishes$Text", "length", "I", false)
  | 1 => ("FutureWishes$Text", "characters", "[C", true)
  | 2 => ("FutureWishes$Text", "open", "I", false)
  | _ => ("FutureWishes$Text", "halfWay", "Z", false)
def tyX4 : Nat → FieldType := fun k => match k with
  | 0 => .int
  | 1 => .array .char
  | 2 => .int
  | _ => .boolean
theorem nmX4 : ∀ a, a < 4 → ∀ b, b < 4 → a ≠ b → (TX4 a).2.1 ≠ (TX4 b).2.1 := by decide +kernel
theorem tyX4_ok : ∀ k, k < 4 → parseFieldDescriptor (TX4 k).2.2.1 = some (tyX4 k) := by decide +kernel
abbrev cX4_init : ByteArray := prog_6_method_1_code
def yX4_init : MethodName := ⟨RX4, "<init>", "()V"⟩
abbrev cX4_put : ByteArray := prog_6_method_2_code
def yX4_put : MethodName := ⟨RX4, "put", "(C)V"⟩
abbrev cX4_at : ByteArray := prog_6_method_3_code
def yX4_at : MethodName := ⟨RX4, "at", "(I)C"⟩
abbrev cX4_isWish : ByteArray := prog_6_method_4_code
def yX4_isWish : MethodName := ⟨RX4, "isWish", "()Z"⟩
abbrev cX4_firstFault : ByteArray := prog_6_method_5_code
def yX4_firstFault : MethodName := ⟨RX4, "firstFault", "()I"⟩
abbrev cX4_leastRest : ByteArray := prog_6_method_6_code
def yX4_leastRest : MethodName := ⟨RX4, "leastRest", "()I"⟩
abbrev cX4_takes : ByteArray := prog_6_method_7_code
def yX4_takes : MethodName := ⟨RX4, "takes", "(C)Z"⟩
abbrev cX4_takesSecond : ByteArray := prog_6_method_8_code
def yX4_takesSecond : MethodName := ⟨RX4, "takesSecond", "(C)Z"⟩
abbrev cX4_takesFirst : ByteArray := prog_6_method_9_code
def yX4_takesFirst : MethodName := ⟨RX4, "takesFirst", "(C)Z"⟩
def RX5 : String := "FutureWishes$Trial"
def TX5 : u_T := fun k => match k with
  | 0 => ("FutureWishes$Trial", "number", "I", false)
  | 1 => ("FutureWishes$Trial", "first", "I", false)
  | 2 => ("FutureWishes$Trial", "state", "LFutureWishes$State;", true)
  | _ => ("FutureWishes$Trial", "meaning", "LFutureWishes$Meaning;", true)
def tyX5 : Nat → FieldType := fun k => match k with
  | 0 => .int
  | 1 => .int
  | 2 => .object "FutureWishes$State"
  | _ => .object "FutureWishes$Meaning"
theorem nmX5 : ∀ a, a < 4 → ∀ b, b < 4 → a ≠ b → (TX5 a).2.1 ≠ (TX5 b).2.1 := by decide +kernel
theorem tyX5_ok : ∀ k, k < 4 → parseFieldDescriptor (TX5 k).2.2.1 = some (tyX5 k) := by decide +kernel
abbrev cX5_init : ByteArray := prog_7_method_1_code
def yX5_init : MethodName := ⟨RX5, "<init>", "()V"⟩
abbrev cX5_flips : ByteArray := prog_7_method_2_code
def yX5_flips : MethodName := ⟨RX5, "flips", "(LFutureWishes$State;II)V"⟩
abbrev cX5_turns : ByteArray := prog_7_method_3_code
def yX5_turns : MethodName := ⟨RX5, "turns", "(LFutureWishes$State;II)V"⟩
abbrev cX5_worldsIfFair : ByteArray := prog_7_method_4_code
def yX5_worldsIfFair : MethodName := ⟨RX5, "worldsIfFair", "(LFutureWishes$State;II)I"⟩
abbrev cX5_begin : ByteArray := prog_7_method_5_code
def yX5_begin : MethodName := ⟨RX5, "begin", "(LFutureWishes$State;I)V"⟩
abbrev cX5_note : ByteArray := prog_7_method_6_code
def yX5_note : MethodName := ⟨RX5, "note", "(II)V"⟩
def RX6 : String := "FutureWishes$Witness"
def TX6 : u_T := fun k => match k with
  | 0 => ("FutureWishes$Witness", "meaning", "LFutureWishes$Meaning;", true)
  | 1 => ("FutureWishes$Witness", "futures", "LFutureWishes$Futures;", true)
  | 2 => ("FutureWishes$Witness", "row", "[I", true)
  | 3 => ("FutureWishes$Witness", "length", "I", false)
  | _ => ("FutureWishes$Witness", "layers", "[I", true)
def tyX6 : Nat → FieldType := fun k => match k with
  | 0 => .object "FutureWishes$Meaning"
  | 1 => .object "FutureWishes$Futures"
  | 2 => .array .int
  | 3 => .int
  | _ => .array .int
theorem nmX6 : ∀ a, a < 5 → ∀ b, b < 5 → a ≠ b → (TX6 a).2.1 ≠ (TX6 b).2.1 := by decide +kernel
theorem tyX6_ok : ∀ k, k < 5 → parseFieldDescriptor (TX6 k).2.2.1 = some (tyX6 k) := by decide +kernel
abbrev cX6_init : ByteArray := prog_8_method_1_code
def yX6_init : MethodName := ⟨RX6, "<init>", "(LFutureWishes$Meaning;)V"⟩
abbrev cX6_at : ByteArray := prog_8_method_2_code
def yX6_at : MethodName := ⟨RX6, "at", "(I)I"⟩
abbrev cX6_find : ByteArray := prog_8_method_3_code
def yX6_find : MethodName := ⟨RX6, "find", "(I)V"⟩
abbrev cX6_go : ByteArray := prog_8_method_4_code
def yX6_go : MethodName := ⟨RX6, "go", "(ICII)V"⟩
abbrev cX6_goAgainst : ByteArray := prog_8_method_5_code
def yX6_goAgainst : MethodName := ⟨RX6, "goAgainst", "(ICII)V"⟩
abbrev cX6_goNext : ByteArray := prog_8_method_6_code
def yX6_goNext : MethodName := ⟨RX6, "goNext", "(II)V"⟩
abbrev cX6_goUntil : ByteArray := prog_8_method_7_code
def yX6_goUntil : MethodName := ⟨RX6, "goUntil", "(III)V"⟩
abbrev cX6_goAround : ByteArray := prog_8_method_8_code
def yX6_goAround : MethodName := ⟨RX6, "goAround", "(II)V"⟩
abbrev cX6_layOut : ByteArray := prog_8_method_9_code
def yX6_layOut : MethodName := ⟨RX6, "layOut", "(II)V"⟩
abbrev cX6_walk : ByteArray := prog_8_method_10_code
def yX6_walk : MethodName := ⟨RX6, "walk", "(I)I"⟩
abbrev cX6_nearestLayer : ByteArray := prog_8_method_11_code
def yX6_nearestLayer : MethodName := ⟨RX6, "nearestLayer", "(I)I"⟩
abbrev cX6_put : ByteArray := prog_8_method_12_code
def yX6_put : MethodName := ⟨RX6, "put", "(I)V"⟩
abbrev cX6_has : ByteArray := prog_8_method_13_code
def yX6_has : MethodName := ⟨RX6, "has", "(II)Z"⟩
abbrev cX6_lowest : ByteArray := prog_8_method_14_code
def yX6_lowest : MethodName := ⟨RX6, "lowest", "(I)I"⟩
def RX7 : String := "FutureWishes"
def TX7 : u_T := fun k => match k with
  | 0 => ("FutureWishes", "state", "LFutureWishes$State;", true)
  | 1 => ("FutureWishes", "history", "LFutureWishes$History;", true)
  | 2 => ("FutureWishes", "text", "LFutureWishes$Text;", true)
  | 3 => ("FutureWishes", "meaning", "LFutureWishes$Meaning;", true)
  | 4 => ("FutureWishes", "way", "LFutureWishes$Witness;", true)
  | _ => ("FutureWishes", "trial", "LFutureWishes$Trial;", true)
def tyX7 : Nat → FieldType := fun k => match k with
  | 0 => .object "FutureWishes$State"
  | 1 => .object "FutureWishes$History"
  | 2 => .object "FutureWishes$Text"
  | 3 => .object "FutureWishes$Meaning"
  | 4 => .object "FutureWishes$Witness"
  | _ => .object "FutureWishes$Trial"
theorem nmX7 : ∀ a, a < 6 → ∀ b, b < 6 → a ≠ b → (TX7 a).2.1 ≠ (TX7 b).2.1 := by decide +kernel
theorem tyX7_ok : ∀ k, k < 6 → parseFieldDescriptor (TX7 k).2.2.1 = some (tyX7 k) := by decide +kernel
abbrev cX7_init : ByteArray := prog_1_method_1_code
def yX7_init : MethodName := ⟨RX7, "<init>", "()V"⟩
abbrev cX7_addWorld : ByteArray := prog_1_method_2_code
def yX7_addWorld : MethodName := ⟨RX7, "addWorld", "(I)I"⟩
abbrev cX7_removeWorld : ByteArray := prog_1_method_3_code
def yX7_removeWorld : MethodName := ⟨RX7, "removeWorld", "(I)I"⟩
abbrev cX7_step : ByteArray := prog_1_method_4_code
def yX7_step : MethodName := ⟨RX7, "step", "(II)I"⟩
abbrev cX7_flip : ByteArray := prog_1_method_5_code
def yX7_flip : MethodName := ⟨RX7, "flip", "(II)I"⟩
abbrev cX7_fair : ByteArray := prog_1_method_6_code
def yX7_fair : MethodName := ⟨RX7, "fair", "(I)I"⟩
abbrev cX7_ring : ByteArray := prog_1_method_7_code
def yX7_ring : MethodName := ⟨RX7, "ring", "()I"⟩
abbrev cX7_append : ByteArray := prog_1_method_8_code
def yX7_append : MethodName := ⟨RX7, "append", "(I)I"⟩
abbrev cX7_clearBuffer : ByteArray := prog_1_method_9_code
def yX7_clearBuffer : MethodName := ⟨RX7, "clearBuffer", "()I"⟩
abbrev cX7_firstError : ByteArray := prog_1_method_10_code
def yX7_firstError : MethodName := ⟨RX7, "firstError", "()I"⟩
abbrev cX7_read : ByteArray := prog_1_method_11_code
def yX7_read : MethodName := ⟨RX7, "read", "(I)I"⟩
abbrev cX7_negate : ByteArray := prog_1_method_12_code
def yX7_negate : MethodName := ⟨RX7, "negate", "(I)I"⟩
abbrev cX7_giveUp : ByteArray := prog_1_method_13_code
def yX7_giveUp : MethodName := ⟨RX7, "giveUp", "(I)I"⟩
abbrev cX7_undo : ByteArray := prog_1_method_14_code
def yX7_undo : MethodName := ⟨RX7, "undo", "()I"⟩
abbrev cX7_world : ByteArray := prog_1_method_15_code
def yX7_world : MethodName := ⟨RX7, "world", "(II)I"⟩
abbrev cX7_wish : ByteArray := prog_1_method_16_code
def yX7_wish : MethodName := ⟨RX7, "wish", "(II)I"⟩
abbrev cX7_sign : ByteArray := prog_1_method_17_code
def yX7_sign : MethodName := ⟨RX7, "sign", "(III)I"⟩
abbrev cX7_witness : ByteArray := prog_1_method_18_code
def yX7_witness : MethodName := ⟨RX7, "witness", "(III)I"⟩
abbrev cX7_compare : ByteArray := prog_1_method_19_code
def yX7_compare : MethodName := ⟨RX7, "compare", "(II)I"⟩
abbrev cX7_count : ByteArray := prog_1_method_20_code
def yX7_count : MethodName := ⟨RX7, "count", "(I)I"⟩
abbrev cX7_fixes : ByteArray := prog_1_method_21_code
def yX7_fixes : MethodName := ⟨RX7, "fixes", "(III)I"⟩
abbrev cX7_ifFair : ByteArray := prog_1_method_22_code
def yX7_ifFair : MethodName := ⟨RX7, "ifFair", "(II)I"⟩
abbrev cX7_fulfilled : ByteArray := prog_1_method_23_code
def yX7_fulfilled : MethodName := ⟨RX7, "fulfilled", "()D"⟩
abbrev cX7_digest : ByteArray := prog_1_method_24_code
def yX7_digest : MethodName := ⟨RX7, "digest", "()J"⟩
abbrev cX7_needWorld : ByteArray := prog_1_method_25_code
def yX7_needWorld : MethodName := ⟨RX7, "needWorld", "(I)V"⟩
abbrev cX7_needWish : ByteArray := prog_1_method_26_code
def yX7_needWish : MethodName := ⟨RX7, "needWish", "(I)V"⟩
abbrev cX7_needLetterOrNone : ByteArray := prog_1_method_27_code
def yX7_needLetterOrNone : MethodName := ⟨RX7, "needLetterOrNone", "(I)V"⟩
abbrev cX7_needLook : ByteArray := prog_1_method_28_code
def yX7_needLook : MethodName := ⟨RX7, "needLook", "(II)V"⟩
abbrev cX7_wishesHoldingIn : ByteArray := prog_1_method_29_code
def yX7_wishesHoldingIn : MethodName := ⟨RX7, "wishesHoldingIn", "(I)I"⟩
abbrev cX7_worldsOfAllWishes : ByteArray := prog_1_method_30_code
def yX7_worldsOfAllWishes : MethodName := ⟨RX7, "worldsOfAllWishes", "()I"⟩
abbrev cX7_mixed : ByteArray := prog_1_method_31_code
def yX7_mixed : MethodName := ⟨RX7, "mixed", "(JJ)J"⟩
abbrev cX7_mixedSigns : ByteArray := prog_1_method_32_code
def yX7_mixedSigns : MethodName := ⟨RX7, "mixedSigns", "(J)J"⟩
abbrev cX7_mixedWitness : ByteArray := prog_1_method_33_code
def yX7_mixedWitness : MethodName := ⟨RX7, "mixedWitness", "(J)J"⟩
abbrev cX7_mixedFixes : ByteArray := prog_1_method_34_code
def yX7_mixedFixes : MethodName := ⟨RX7, "mixedFixes", "(JI)J"⟩
abbrev cX7_bitsOfShare : ByteArray := prog_1_method_35_code
def yX7_bitsOfShare : MethodName := ⟨RX7, "bitsOfShare", "(D)J"⟩
def RX8 : String := "FutureWishesModel"
def TX8 : u_T := fun k => match k with
  | 0 => ("FutureWishesModel", "thrown", "I", false)
  | 1 => ("FutureWishesModel", "z", "[I", true)
  | 2 => ("FutureWishesModel", "saved", "[I", true)
  | 3 => ("FutureWishesModel", "savedMany", "I", false)
  | 4 => ("FutureWishesModel", "buffer", "[I", true)
  | 5 => ("FutureWishesModel", "typed", "I", false)
  | 6 => ("FutureWishesModel", "rounds", "I", false)
  | 7 => ("FutureWishesModel", "sets", "[I", true)
  | 8 => ("FutureWishesModel", "roundsOf", "[I", true)
  | 9 => ("FutureWishesModel", "lengths", "[I", true)
  | 10 => ("FutureWishesModel", "depths", "[I", true)
  | 11 => ("FutureWishesModel", "wanted", "I", false)
  | 12 => ("FutureWishesModel", "wantsWays", "Z", false)
  | 13 => ("FutureWishesModel", "row", "[I", true)
  | 14 => ("FutureWishesModel", "rowMany", "I", false)
  | 15 => ("FutureWishesModel", "steps", "[I", true)
  | 16 => ("FutureWishesModel", "fixMany", "I", false)
  | 17 => ("FutureWishesModel", "fixFirst", "I", false)
  | _ => ("FutureWishesModel", "hash", "J", false)
def tyX8 : Nat → FieldType := fun k => match k with
  | 0 => .int
  | 1 => .array .int
  | 2 => .array .int
  | 3 => .int
  | 4 => .array .int
  | 5 => .int
  | 6 => .int
  | 7 => .array .int
  | 8 => .array .int
  | 9 => .array .int
  | 10 => .array .int
  | 11 => .int
  | 12 => .boolean
  | 13 => .array .int
  | 14 => .int
  | 15 => .array .int
  | 16 => .int
  | 17 => .int
  | _ => .long
theorem nmX8 : ∀ a, a < 19 → ∀ b, b < 19 → a ≠ b → (TX8 a).2.1 ≠ (TX8 b).2.1 := by decide +kernel
theorem tyX8_ok : ∀ k, k < 19 → parseFieldDescriptor (TX8 k).2.2.1 = some (tyX8 k) := by decide +kernel
abbrev cX8_init : ByteArray := prog_10_method_1_code
def yX8_init : MethodName := ⟨RX8, "<init>", "()V"⟩
abbrev cX8_thrown : ByteArray := prog_10_method_2_code
def yX8_thrown : MethodName := ⟨RX8, "thrown", "()I"⟩
abbrev cX8_in : ByteArray := prog_10_method_3_code
def yX8_in : MethodName := ⟨RX8, "in", "(III)Z"⟩
abbrev cX8_isWorld : ByteArray := prog_10_method_4_code
def yX8_isWorld : MethodName := ⟨RX8, "isWorld", "(I)Z"⟩
abbrev cX8_isWish : ByteArray := prog_10_method_5_code
def yX8_isWish : MethodName := ⟨RX8, "isWish", "(I)Z"⟩
abbrev cX8_all : ByteArray := prog_10_method_6_code
def yX8_all : MethodName := ⟨RX8, "all", "()I"⟩
abbrev cX8_bits : ByteArray := prog_10_method_7_code
def yX8_bits : MethodName := ⟨RX8, "bits", "(I)I"⟩
abbrev cX8_save : ByteArray := prog_10_method_8_code
def yX8_save : MethodName := ⟨RX8, "save", "()V"⟩
abbrev cX8_undo : ByteArray := prog_10_method_9_code
def yX8_undo : MethodName := ⟨RX8, "undo", "()I"⟩
abbrev cX8_addWorld : ByteArray := prog_10_method_10_code
def yX8_addWorld : MethodName := ⟨RX8, "addWorld", "(I)I"⟩
abbrev cX8_less : ByteArray := prog_10_method_11_code
def yX8_less : MethodName := ⟨RX8, "less", "(II)I"⟩
abbrev cX8_removeWorld : ByteArray := prog_10_method_12_code
def yX8_removeWorld : MethodName := ⟨RX8, "removeWorld", "(I)I"⟩
abbrev cX8_step : ByteArray := prog_10_method_13_code
def yX8_step : MethodName := ⟨RX8, "step", "(II)I"⟩
abbrev cX8_flip : ByteArray := prog_10_method_14_code
def yX8_flip : MethodName := ⟨RX8, "flip", "(II)I"⟩
abbrev cX8_fair : ByteArray := prog_10_method_15_code
def yX8_fair : MethodName := ⟨RX8, "fair", "(I)I"⟩
abbrev cX8_stepMany : ByteArray := prog_10_method_16_code
def yX8_stepMany : MethodName := ⟨RX8, "stepMany", "()I"⟩
abbrev cX8_ring : ByteArray := prog_10_method_17_code
def yX8_ring : MethodName := ⟨RX8, "ring", "()I"⟩
abbrev cX8_withLetter : ByteArray := prog_10_method_18_code
def yX8_withLetter : MethodName := ⟨RX8, "withLetter", "(I)I"⟩
abbrev cX8_into : ByteArray := prog_10_method_19_code
def yX8_into : MethodName := ⟨RX8, "into", "(I)I"⟩
abbrev cX8_goals : ByteArray := prog_10_method_20_code
def yX8_goals : MethodName := ⟨RX8, "goals", "(I)I"⟩
abbrev cX8_stays : ByteArray := prog_10_method_21_code
def yX8_stays : MethodName := ⟨RX8, "stays", "(I)I"⟩
abbrev cX8_live : ByteArray := prog_10_method_22_code
def yX8_live : MethodName := ⟨RX8, "live", "()I"⟩
abbrev cX8_comes : ByteArray := prog_10_method_23_code
def yX8_comes : MethodName := ⟨RX8, "comes", "(II)I"⟩
abbrev cX8_lengthOf : ByteArray := prog_10_method_24_code
def yX8_lengthOf : MethodName := ⟨RX8, "lengthOf", "(I)I"⟩
abbrev cX8_signAt : ByteArray := prog_10_method_25_code
def yX8_signAt : MethodName := ⟨RX8, "signAt", "(II)I"⟩
abbrev cX8_isOfWays : ByteArray := prog_10_method_26_code
def yX8_isOfWays : MethodName := ⟨RX8, "isOfWays", "(I)Z"⟩
abbrev cX8_some : ByteArray := prog_10_method_27_code
def yX8_some : MethodName := ⟨RX8, "some", "(III)I"⟩
abbrev cX8_every : ByteArray := prog_10_method_28_code
def yX8_every : MethodName := ⟨RX8, "every", "(III)I"⟩
abbrev cX8_layWays : ByteArray := prog_10_method_29_code
def yX8_layWays : MethodName := ⟨RX8, "layWays", "(II)V"⟩
abbrev cX8_layBoth : ByteArray := prog_10_method_30_code
def yX8_layBoth : MethodName := ⟨RX8, "layBoth", "(II)V"⟩
abbrev cX8_lay : ByteArray := prog_10_method_31_code
def yX8_lay : MethodName := ⟨RX8, "lay", "(I)V"⟩
abbrev cX8_holds : ByteArray := prog_10_method_32_code
def yX8_holds : MethodName := ⟨RX8, "holds", "(I)I"⟩
abbrev cX8_append : ByteArray := prog_10_method_33_code
def yX8_append : MethodName := ⟨RX8, "append", "(I)I"⟩
abbrev cX8_clearBuffer : ByteArray := prog_10_method_34_code
def yX8_clearBuffer : MethodName := ⟨RX8, "clearBuffer", "()I"⟩
abbrev cX8_stands : ByteArray := prog_10_method_35_code
def yX8_stands : MethodName := ⟨RX8, "stands", "(I)Z"⟩
abbrev cX8_readBuffer : ByteArray := prog_10_method_36_code
def yX8_readBuffer : MethodName := ⟨RX8, "readBuffer", "()I"⟩
abbrev cX8_firstError : ByteArray := prog_10_method_37_code
def yX8_firstError : MethodName := ⟨RX8, "firstError", "()I"⟩
abbrev cX8_isWhole : ByteArray := prog_10_method_38_code
def yX8_isWhole : MethodName := ⟨RX8, "isWhole", "()Z"⟩
abbrev cX8_read : ByteArray := prog_10_method_39_code
def yX8_read : MethodName := ⟨RX8, "read", "(I)I"⟩
abbrev cX8_whyNotNegate : ByteArray := prog_10_method_40_code
def yX8_whyNotNegate : MethodName := ⟨RX8, "whyNotNegate", "(I)I"⟩
abbrev cX8_negate : ByteArray := prog_10_method_41_code
def yX8_negate : MethodName := ⟨RX8, "negate", "(I)I"⟩
abbrev cX8_giveUp : ByteArray := prog_10_method_42_code
def yX8_giveUp : MethodName := ⟨RX8, "giveUp", "(I)I"⟩
abbrev cX8_wishesAt : ByteArray := prog_10_method_43_code
def yX8_wishesAt : MethodName := ⟨RX8, "wishesAt", "(I)I"⟩
abbrev cX8_toldWorld : ByteArray := prog_10_method_44_code
def yX8_toldWorld : MethodName := ⟨RX8, "toldWorld", "(II)I"⟩
abbrev cX8_world : ByteArray := prog_10_method_45_code
def yX8_world : MethodName := ⟨RX8, "world", "(II)I"⟩
abbrev cX8_allRounds : ByteArray := prog_10_method_46_code
def yX8_allRounds : MethodName := ⟨RX8, "allRounds", "(I)I"⟩
abbrev cX8_toldWish : ByteArray := prog_10_method_47_code
def yX8_toldWish : MethodName := ⟨RX8, "toldWish", "(II)I"⟩
abbrev cX8_wish : ByteArray := prog_10_method_48_code
def yX8_wish : MethodName := ⟨RX8, "wish", "(II)I"⟩
abbrev cX8_toldSign : ByteArray := prog_10_method_49_code
def yX8_toldSign : MethodName := ⟨RX8, "toldSign", "(III)I"⟩
abbrev cX8_sign : ByteArray := prog_10_method_50_code
def yX8_sign : MethodName := ⟨RX8, "sign", "(III)I"⟩
abbrev cX8_goesTo : ByteArray := prog_10_method_51_code
def yX8_goesTo : MethodName := ⟨RX8, "goesTo", "(I)V"⟩
abbrev cX8_layFar : ByteArray := prog_10_method_52_code
def yX8_layFar : MethodName := ⟨RX8, "layFar", "(II)V"⟩
abbrev cX8_nextOf : ByteArray := prog_10_method_53_code
def yX8_nextOf : MethodName := ⟨RX8, "nextOf", "(II)I"⟩
abbrev cX8_layComing : ByteArray := prog_10_method_54_code
def yX8_layComing : MethodName := ⟨RX8, "layComing", "(III)V"⟩
abbrev cX8_layStaying : ByteArray := prog_10_method_55_code
def yX8_layStaying : MethodName := ⟨RX8, "layStaying", "(II)V"⟩
abbrev cX8_layNext : ByteArray := prog_10_method_56_code
def yX8_layNext : MethodName := ⟨RX8, "layNext", "(II)V"⟩
abbrev cX8_laySome : ByteArray := prog_10_method_57_code
def yX8_laySome : MethodName := ⟨RX8, "laySome", "(IIII)V"⟩
abbrev cX8_layAgainst : ByteArray := prog_10_method_58_code
def yX8_layAgainst : MethodName := ⟨RX8, "layAgainst", "(IIII)V"⟩
abbrev cX8_layWitness : ByteArray := prog_10_method_59_code
def yX8_layWitness : MethodName := ⟨RX8, "layWitness", "(II)V"⟩
abbrev cX8_witnessAt : ByteArray := prog_10_method_60_code
def yX8_witnessAt : MethodName := ⟨RX8, "witnessAt", "(III)I"⟩
abbrev cX8_witness : ByteArray := prog_10_method_61_code
def yX8_witness : MethodName := ⟨RX8, "witness", "(III)I"⟩
abbrev cX8_compared : ByteArray := prog_10_method_62_code
def yX8_compared : MethodName := ⟨RX8, "compared", "(II)I"⟩
abbrev cX8_compare : ByteArray := prog_10_method_63_code
def yX8_compare : MethodName := ⟨RX8, "compare", "(II)I"⟩
abbrev cX8_wishMany : ByteArray := prog_10_method_64_code
def yX8_wishMany : MethodName := ⟨RX8, "wishMany", "()I"⟩
abbrev cX8_signMany : ByteArray := prog_10_method_65_code
def yX8_signMany : MethodName := ⟨RX8, "signMany", "()I"⟩
abbrev cX8_stepless : ByteArray := prog_10_method_66_code
def yX8_stepless : MethodName := ⟨RX8, "stepless", "()I"⟩
abbrev cX8_allHold : ByteArray := prog_10_method_67_code
def yX8_allHold : MethodName := ⟨RX8, "allHold", "()I"⟩
abbrev cX8_counted : ByteArray := prog_10_method_68_code
def yX8_counted : MethodName := ⟨RX8, "counted", "(I)I"⟩
abbrev cX8_count : ByteArray := prog_10_method_69_code
def yX8_count : MethodName := ⟨RX8, "count", "(I)I"⟩
abbrev cX8_tryFix : ByteArray := prog_10_method_70_code
def yX8_tryFix : MethodName := ⟨RX8, "tryFix", "(IIIII)V"⟩
abbrev cX8_fixed : ByteArray := prog_10_method_71_code
def yX8_fixed : MethodName := ⟨RX8, "fixed", "(III)I"⟩
abbrev cX8_fixes : ByteArray := prog_10_method_72_code
def yX8_fixes : MethodName := ⟨RX8, "fixes", "(III)I"⟩
abbrev cX8_byFair : ByteArray := prog_10_method_73_code
def yX8_byFair : MethodName := ⟨RX8, "byFair", "(II)I"⟩
abbrev cX8_ifFair : ByteArray := prog_10_method_74_code
def yX8_ifFair : MethodName := ⟨RX8, "ifFair", "(II)I"⟩
abbrev cX8_share : ByteArray := prog_10_method_75_code
def yX8_share : MethodName := ⟨RX8, "share", "()D"⟩
abbrev cX8_fulfilled : ByteArray := prog_10_method_76_code
def yX8_fulfilled : MethodName := ⟨RX8, "fulfilled", "()D"⟩
abbrev cX8_bitsOf : ByteArray := prog_10_method_77_code
def yX8_bitsOf : MethodName := ⟨RX8, "bitsOf", "(D)J"⟩
abbrev cX8_mix : ByteArray := prog_10_method_78_code
def yX8_mix : MethodName := ⟨RX8, "mix", "(J)V"⟩
abbrev cX8_mixWish : ByteArray := prog_10_method_79_code
def yX8_mixWish : MethodName := ⟨RX8, "mixWish", "(I)V"⟩
abbrev cX8_digest : ByteArray := prog_10_method_80_code
def yX8_digest : MethodName := ⟨RX8, "digest", "()J"⟩
def RJ6 : String := "java/lang/Integer"
def TJ6 : u_T := fun k => match k with
  | _ => ("", "", "", false)
def tyJ6 : Nat → FieldType := fun k => match k with
  | _ => .int
theorem nmJ6 : ∀ a, a < 0 → ∀ b, b < 0 → a ≠ b → (TJ6 a).2.1 ≠ (TJ6 b).2.1 := by decide +kernel
theorem tyJ6_ok : ∀ k, k < 0 → parseFieldDescriptor (TJ6 k).2.2.1 = some (tyJ6 k) := by decide +kernel
abbrev cJ6_bitCount_0f7a4 : ByteArray := prog_15_method_49_code
def yJ6_bitCount_0f7a4 : MethodName := ⟨RJ6, "bitCount", "(I)I"⟩
def RJ9 : String := "java/lang/Math"
def TJ9 : u_T := fun k => match k with
  | _ => ("", "", "", false)
def tyJ9 : Nat → FieldType := fun k => match k with
  | _ => .int
theorem nmJ9 : ∀ a, a < 0 → ∀ b, b < 0 → a ≠ b → (TJ9 a).2.1 ≠ (TJ9 b).2.1 := by decide +kernel
theorem tyJ9_ok : ∀ k, k < 0 → parseFieldDescriptor (TJ9 k).2.2.1 = some (tyJ9 k) := by decide +kernel
abbrev cJ9_max_7cf53 : ByteArray := prog_16_method_65_code
def yJ9_max_7cf53 : MethodName := ⟨RJ9, "max", "(II)I"⟩
def RJ0 : String := "java/lang/String"
def TJ0 : u_T := fun k => match k with
  | _ => ("", "", "", false)
def tyJ0 : Nat → FieldType := fun k => match k with
  | _ => .int
theorem nmJ0 : ∀ a, a < 0 → ∀ b, b < 0 → a ≠ b → (TJ0 a).2.1 ≠ (TJ0 b).2.1 := by decide +kernel
theorem tyJ0_ok : ∀ k, k < 0 → parseFieldDescriptor (TJ0 k).2.2.1 = some (tyJ0 k) := by decide +kernel
def RJ10 : String := "java/lang/System"
def TJ10 : u_T := fun k => match k with
  | _ => ("", "", "", false)
def tyJ10 : Nat → FieldType := fun k => match k with
  | _ => .int
theorem nmJ10 : ∀ a, a < 0 → ∀ b, b < 0 → a ≠ b → (TJ10 a).2.1 ≠ (TJ10 b).2.1 := by decide +kernel
theorem tyJ10_ok : ∀ k, k < 0 → parseFieldDescriptor (TJ10 k).2.2.1 = some (tyJ10 k) := by decide +kernel
def RL : String := "FutureWishesLaw"
abbrev cL_addWorld : ByteArray := method_3_code
def yL_addWorld : MethodName := ⟨RL, "addWorld", "(LFutureWishes;I[J)I"⟩
abbrev cL_removeWorld : ByteArray := method_4_code
def yL_removeWorld : MethodName := ⟨RL, "removeWorld", "(LFutureWishes;I[J)I"⟩
abbrev cL_step : ByteArray := method_5_code
def yL_step : MethodName := ⟨RL, "step", "(LFutureWishes;II[J)I"⟩
abbrev cL_flip : ByteArray := method_6_code
def yL_flip : MethodName := ⟨RL, "flip", "(LFutureWishes;II[J)I"⟩
abbrev cL_fair : ByteArray := method_7_code
def yL_fair : MethodName := ⟨RL, "fair", "(LFutureWishes;I[J)I"⟩
abbrev cL_append : ByteArray := method_8_code
def yL_append : MethodName := ⟨RL, "append", "(LFutureWishes;I[J)I"⟩
abbrev cL_read : ByteArray := method_9_code
def yL_read : MethodName := ⟨RL, "read", "(LFutureWishes;I[J)I"⟩
abbrev cL_negate : ByteArray := method_10_code
def yL_negate : MethodName := ⟨RL, "negate", "(LFutureWishes;I[J)I"⟩
abbrev cL_giveUp : ByteArray := method_11_code
def yL_giveUp : MethodName := ⟨RL, "giveUp", "(LFutureWishes;I[J)I"⟩
abbrev cL_undo : ByteArray := method_12_code
def yL_undo : MethodName := ⟨RL, "undo", "(LFutureWishes;[J)I"⟩
abbrev cL_world : ByteArray := method_13_code
def yL_world : MethodName := ⟨RL, "world", "(LFutureWishes;II[J)I"⟩
abbrev cL_wish : ByteArray := method_14_code
def yL_wish : MethodName := ⟨RL, "wish", "(LFutureWishes;II[J)I"⟩
abbrev cL_sign : ByteArray := method_15_code
def yL_sign : MethodName := ⟨RL, "sign", "(LFutureWishes;III[J)I"⟩
abbrev cL_witness : ByteArray := method_16_code
def yL_witness : MethodName := ⟨RL, "witness", "(LFutureWishes;III[J)I"⟩
abbrev cL_compare : ByteArray := method_17_code
def yL_compare : MethodName := ⟨RL, "compare", "(LFutureWishes;II[J)I"⟩
abbrev cL_count : ByteArray := method_18_code
def yL_count : MethodName := ⟨RL, "count", "(LFutureWishes;I[J)I"⟩
abbrev cL_fixes : ByteArray := method_19_code
def yL_fixes : MethodName := ⟨RL, "fixes", "(LFutureWishes;III[J)I"⟩
abbrev cL_ifFair : ByteArray := method_20_code
def yL_ifFair : MethodName := ⟨RL, "ifFair", "(LFutureWishes;II[J)I"⟩
abbrev cL_law : ByteArray := code
def yL_law : MethodName := ⟨RL, "law", "([I)Z"⟩
abbrev vwCl : List vw_C := [(RX0, TX0, 5), (RX1, TX1, 3), (RX2, TX2, 8), (RX3, TX3, 6), (RX4, TX4, 4), (RX5, TX5, 4), (RX6, TX6, 5), (RX7, TX7, 6), (RX8, TX8, 19)]
end
section
theorem dX0_init_0 : decode cX0_init 0 = .ok (.aload_n 0, 1) := by decide +kernel
theorem dX0_init_1 : decode cX0_init 1 = .ok (.invokespecial 3, 3) := by decide +kernel
theorem dX0_init_4 : decode cX0_init 4 = .ok (.aload_n 0, 1) := by decide +kernel
theorem dX0_init_5 : decode cX0_init 5 = .ok (.iconst 0, 1) := by decide +kernel
theorem dX0_init_6 : decode cX0_init 6 = .ok (.putfield 9, 3) := by decide +kernel
theorem dX0_init_9 : decode cX0_init 9 = .ok (.aload_n 0, 1) := by decide +kernel
theorem dX0_init_10 : decode cX0_init 10 = .ok (.iconst 0, 1) := by decide +kernel
theorem dX0_init_11 : decode cX0_init 11 = .ok (.putfield 15, 3) := by decide +kernel
theorem dX0_init_14 : decode cX0_init 14 = .ok (.aload_n 0, 1) := by decide +kernel
theorem dX0_init_15 : decode cX0_init 15 = .ok (.iconst 0, 1) := by decide +kernel
theorem dX0_init_16 : decode cX0_init 16 = .ok (.putfield 18, 3) := by decide +kernel
theorem dX0_init_19 : decode cX0_init 19 = .ok (.aload_n 0, 1) := by decide +kernel
theorem dX0_init_20 : decode cX0_init 20 = .ok (.iconst 0, 1) := by decide +kernel
theorem dX0_init_21 : decode cX0_init 21 = .ok (.putfield 21, 3) := by decide +kernel
theorem dX0_init_24 : decode cX0_init 24 = .ok (.aload_n 0, 1) := by decide +kernel
theorem dX0_init_25 : decode cX0_init 25 = .ok (.aload_n 1, 1) := by decide +kernel
theorem dX0_init_26 : decode cX0_init 26 = .ok (.putfield 24, 3) := by decide +kernel
theorem dX0_init_29 : decode cX0_init 29 = .ok (.return_, 1) := by decide +kernel
theorem dX0_look_0 : decode cX0_look 0 = .ok (.aload_n 0, 1) := by decide +kernel
theorem dX0_look_1 : decode cX0_look 1 = .ok (.aload_n 0, 1) := by decide +kernel
theorem dX0_look_2 : decode cX0_look 2 = .ok (.getfield 24, 3) := by decide +kernel
theorem dX0_look_5 : decode cX0_look 5 = .ok (.invokevirtual 28, 3) := by decide +kernel
theorem dX0_look_8 : decode cX0_look 8 = .ok (.putfield 9, 3) := by decide +kernel
theorem dX0_look_11 : decode cX0_look 11 = .ok (.aload_n 0, 1) := by decide +kernel
theorem dX0_look_12 : decode cX0_look 12 = .ok (.aload_n 0, 1) := by decide +kernel
theorem dX0_look_13 : decode cX0_look 13 = .ok (.getfield 24, 3) := by decide +kernel
theorem dX0_look_16 : decode cX0_look 16 = .ok (.getfield 34, 3) := by decide +kernel
theorem dX0_look_19 : decode cX0_look 19 = .ok (.iconst (-1), 1) := by decide +kernel
theorem dX0_look_20 : decode cX0_look 20 = .ok (.if_icmp .ne 10, 3) := by decide +kernel
theorem dX0_look_23 : decode cX0_look 23 = .ok (.aload_n 0, 1) := by decide +kernel
theorem dX0_look_24 : decode cX0_look 24 = .ok (.getfield 9, 3) := by decide +kernel
theorem dX0_look_27 : decode cX0_look 27 = .ok (.goto 17, 3) := by decide +kernel
theorem dX0_look_30 : decode cX0_look 30 = .ok (.aload_n 0, 1) := by decide +kernel
theorem dX0_look_31 : decode cX0_look 31 = .ok (.getfield 24, 3) := by decide +kernel
theorem dX0_look_34 : decode cX0_look 34 = .ok (.aload_n 0, 1) := by decide +kernel
theorem dX0_look_35 : decode cX0_look 35 = .ok (.getfield 24, 3) := by decide +kernel
theorem dX0_look_38 : decode cX0_look 38 = .ok (.getfield 34, 3) := by decide +kernel
theorem dX0_look_41 : decode cX0_look 41 = .ok (.invokevirtual 37, 3) := by decide +kernel
theorem dX0_look_44 : decode cX0_look 44 = .ok (.putfield 21, 3) := by decide +kernel
theorem dX0_look_47 : decode cX0_look 47 = .ok (.aload_n 0, 1) := by decide +kernel
theorem dX0_look_48 : decode cX0_look 48 = .ok (.aload_n 0, 1) := by decide +kernel
theorem dX0_look_49 : decode cX0_look 49 = .ok (.aload_n 0, 1) := by decide +kernel
theorem dX0_look_50 : decode cX0_look 50 = .ok (.getfield 9, 3) := by decide +kernel
theorem dX0_look_53 : decode cX0_look 53 = .ok (.invokevirtual 41, 3) := by decide +kernel
theorem dX0_look_56 : decode cX0_look 56 = .ok (.putfield 15, 3) := by decide +kernel
theorem dX0_look_59 : decode cX0_look 59 = .ok (.return_, 1) := by decide +kernel
theorem dX0_onSomeWay_0 : decode cX0_onSomeWay 0 = .ok (.iload_n 1, 1) := by decide +kernel
theorem dX0_onSomeWay_1 : decode cX0_onSomeWay 1 = .ok (.lookupswitch 65 #[(70, 49), (71, 59), (88, 35)], 35) := by decide +kernel
theorem dX0_onSomeWay_36 : decode cX0_onSomeWay 36 = .ok (.aload_n 0, 1) := by decide +kernel
theorem dX0_onSomeWay_37 : decode cX0_onSomeWay 37 = .ok (.getfield 24, 3) := by decide +kernel
theorem dX0_onSomeWay_40 : decode cX0_onSomeWay 40 = .ok (.iload_n 2, 1) := by decide +kernel
theorem dX0_onSomeWay_41 : decode cX0_onSomeWay 41 = .ok (.aload_n 0, 1) := by decide +kernel
theorem dX0_onSomeWay_42 : decode cX0_onSomeWay 42 = .ok (.getfield 15, 3) := by decide +kernel
theorem dX0_onSomeWay_45 : decode cX0_onSomeWay 45 = .ok (.iand, 1) := by decide +kernel
theorem dX0_onSomeWay_46 : decode cX0_onSomeWay 46 = .ok (.invokevirtual 44, 3) := by decide +kernel
theorem dX0_onSomeWay_49 : decode cX0_onSomeWay 49 = .ok (.ireturn, 1) := by decide +kernel
theorem dX0_onSomeWay_50 : decode cX0_onSomeWay 50 = .ok (.aload_n 0, 1) := by decide +kernel
theorem dX0_onSomeWay_51 : decode cX0_onSomeWay 51 = .ok (.aload_n 0, 1) := by decide +kernel
theorem dX0_onSomeWay_52 : decode cX0_onSomeWay 52 = .ok (.getfield 9, 3) := by decide +kernel
theorem dX0_onSomeWay_55 : decode cX0_onSomeWay 55 = .ok (.iload_n 2, 1) := by decide +kernel
theorem dX0_onSomeWay_56 : decode cX0_onSomeWay 56 = .ok (.invokevirtual 47, 3) := by decide +kernel
theorem dX0_onSomeWay_59 : decode cX0_onSomeWay 59 = .ok (.ireturn, 1) := by decide +kernel
theorem dX0_onSomeWay_60 : decode cX0_onSomeWay 60 = .ok (.aload_n 0, 1) := by decide +kernel
theorem dX0_onSomeWay_61 : decode cX0_onSomeWay 61 = .ok (.iload_n 2, 1) := by decide +kernel
theorem dX0_onSomeWay_62 : decode cX0_onSomeWay 62 = .ok (.invokevirtual 41, 3) := by decide +kernel
theorem dX0_onSomeWay_65 : decode cX0_onSomeWay 65 = .ok (.ireturn, 1) := by decide +kernel
theorem dX0_onSomeWay_66 : decode cX0_onSomeWay 66 = .ok (.aload_n 0, 1) := by decide +kernel
theorem dX0_onSomeWay_67 : decode cX0_onSomeWay 67 = .ok (.iload_n 2, 1) := by decide +kernel
theorem dX0_onSomeWay_68 : decode cX0_onSomeWay 68 = .ok (.iload_n 3, 1) := by decide +kernel
theorem dX0_onSomeWay_69 : decode cX0_onSomeWay 69 = .ok (.invokevirtual 47, 3) := by decide +kernel
theorem dX0_onSomeWay_72 : decode cX0_onSomeWay 72 = .ok (.ireturn, 1) := by decide +kernel
theorem dX0_onSomeWayNot_0 : decode cX0_onSomeWayNot 0 = .ok (.aload_n 0, 1) := by decide +kernel
theorem dX0_onSomeWayNot_1 : decode cX0_onSomeWayNot 1 = .ok (.getfield 9, 3) := by decide +kernel
theorem dX0_onSomeWayNot_4 : decode cX0_onSomeWayNot 4 = .ok (.iload_n 2, 1) := by decide +kernel
theorem dX0_onSomeWayNot_5 : decode cX0_onSomeWayNot 5 = .ok (.iconst (-1), 1) := by decide +kernel
theorem dX0_onSomeWayNot_6 : decode cX0_onSomeWayNot 6 = .ok (.ixor, 1) := by decide +kernel
theorem dX0_onSomeWayNot_7 : decode cX0_onSomeWayNot 7 = .ok (.iand, 1) := by decide +kernel
theorem dX0_onSomeWayNot_8 : decode cX0_onSomeWayNot 8 = .ok (.istore 4, 2) := by decide +kernel
theorem dX0_onSomeWayNot_10 : decode cX0_onSomeWayNot 10 = .ok (.aload_n 0, 1) := by decide +kernel
theorem dX0_onSomeWayNot_11 : decode cX0_onSomeWayNot 11 = .ok (.getfield 9, 3) := by decide +kernel
theorem dX0_onSomeWayNot_14 : decode cX0_onSomeWayNot 14 = .ok (.iload_n 3, 1) := by decide +kernel
theorem dX0_onSomeWayNot_15 : decode cX0_onSomeWayNot 15 = .ok (.iconst (-1), 1) := by decide +kernel
theorem dX0_onSomeWayNot_16 : decode cX0_onSomeWayNot 16 = .ok (.ixor, 1) := by decide +kernel
theorem dX0_onSomeWayNot_17 : decode cX0_onSomeWayNot 17 = .ok (.iand, 1) := by decide +kernel
theorem dX0_onSomeWayNot_18 : decode cX0_onSomeWayNot 18 = .ok (.istore 5, 2) := by decide +kernel
theorem dX0_onSomeWayNot_20 : decode cX0_onSomeWayNot 20 = .ok (.iload_n 1, 1) := by decide +kernel
theorem dX0_onSomeWayNot_21 : decode cX0_onSomeWayNot 21 = .ok (.lookupswitch 68 #[(70, 50), (71, 57), (88, 35)], 35) := by decide +kernel
theorem dX0_onSomeWayNot_56 : decode cX0_onSomeWayNot 56 = .ok (.aload_n 0, 1) := by decide +kernel
theorem dX0_onSomeWayNot_57 : decode cX0_onSomeWayNot 57 = .ok (.getfield 24, 3) := by decide +kernel
theorem dX0_onSomeWayNot_60 : decode cX0_onSomeWayNot 60 = .ok (.iload 4, 2) := by decide +kernel
theorem dX0_onSomeWayNot_62 : decode cX0_onSomeWayNot 62 = .ok (.aload_n 0, 1) := by decide +kernel
theorem dX0_onSomeWayNot_63 : decode cX0_onSomeWayNot 63 = .ok (.getfield 15, 3) := by decide +kernel
theorem dX0_onSomeWayNot_66 : decode cX0_onSomeWayNot 66 = .ok (.iand, 1) := by decide +kernel
theorem dX0_onSomeWayNot_67 : decode cX0_onSomeWayNot 67 = .ok (.invokevirtual 44, 3) := by decide +kernel
theorem dX0_onSomeWayNot_70 : decode cX0_onSomeWayNot 70 = .ok (.ireturn, 1) := by decide +kernel
theorem dX0_onSomeWayNot_71 : decode cX0_onSomeWayNot 71 = .ok (.aload_n 0, 1) := by decide +kernel
theorem dX0_onSomeWayNot_72 : decode cX0_onSomeWayNot 72 = .ok (.iload 4, 2) := by decide +kernel
theorem dX0_onSomeWayNot_74 : decode cX0_onSomeWayNot 74 = .ok (.invokevirtual 41, 3) := by decide +kernel
theorem dX0_onSomeWayNot_77 : decode cX0_onSomeWayNot 77 = .ok (.ireturn, 1) := by decide +kernel
theorem dX0_onSomeWayNot_78 : decode cX0_onSomeWayNot 78 = .ok (.aload_n 0, 1) := by decide +kernel
theorem dX0_onSomeWayNot_79 : decode cX0_onSomeWayNot 79 = .ok (.aload_n 0, 1) := by decide +kernel
theorem dX0_onSomeWayNot_80 : decode cX0_onSomeWayNot 80 = .ok (.getfield 9, 3) := by decide +kernel
theorem dX0_onSomeWayNot_83 : decode cX0_onSomeWayNot 83 = .ok (.iload 4, 2) := by decide +kernel
theorem dX0_onSomeWayNot_85 : decode cX0_onSomeWayNot 85 = .ok (.invokevirtual 47, 3) := by decide +kernel
theorem dX0_onSomeWayNot_88 : decode cX0_onSomeWayNot 88 = .ok (.ireturn, 1) := by decide +kernel
theorem dX0_onSomeWayNot_89 : decode cX0_onSomeWayNot 89 = .ok (.aload_n 0, 1) := by decide +kernel
theorem dX0_onSomeWayNot_90 : decode cX0_onSomeWayNot 90 = .ok (.iload 5, 2) := by decide +kernel
theorem dX0_onSomeWayNot_92 : decode cX0_onSomeWayNot 92 = .ok (.iload 5, 2) := by decide +kernel
theorem dX0_onSomeWayNot_94 : decode cX0_onSomeWayNot 94 = .ok (.iload 4, 2) := by decide +kernel
theorem dX0_onSomeWayNot_96 : decode cX0_onSomeWayNot 96 = .ok (.iand, 1) := by decide +kernel
theorem dX0_onSomeWayNot_97 : decode cX0_onSomeWayNot 97 = .ok (.invokevirtual 47, 3) := by decide +kernel
theorem dX0_onSomeWayNot_100 : decode cX0_onSomeWayNot 100 = .ok (.aload_n 0, 1) := by decide +kernel
theorem dX0_onSomeWayNot_101 : decode cX0_onSomeWayNot 101 = .ok (.iload 5, 2) := by decide +kernel
theorem dX0_onSomeWayNot_103 : decode cX0_onSomeWayNot 103 = .ok (.invokevirtual 41, 3) := by decide +kernel
theorem dX0_onSomeWayNot_106 : decode cX0_onSomeWayNot 106 = .ok (.ior, 1) := by decide +kernel
theorem dX0_onSomeWayNot_107 : decode cX0_onSomeWayNot 107 = .ok (.ireturn, 1) := by decide +kernel
theorem dX0_until_0 : decode cX0_until 0 = .ok (.iload_n 2, 1) := by decide +kernel
theorem dX0_until_1 : decode cX0_until 1 = .ok (.aload_n 0, 1) := by decide +kernel
theorem dX0_until_2 : decode cX0_until 2 = .ok (.getfield 15, 3) := by decide +kernel
theorem dX0_until_5 : decode cX0_until 5 = .ok (.iand, 1) := by decide +kernel
theorem dX0_until_6 : decode cX0_until 6 = .ok (.istore_n 3, 1) := by decide +kernel
theorem dX0_until_7 : decode cX0_until 7 = .ok (.iconst 0, 1) := by decide +kernel
theorem dX0_until_8 : decode cX0_until 8 = .ok (.istore 4, 2) := by decide +kernel
theorem dX0_until_10 : decode cX0_until 10 = .ok (.iload 4, 2) := by decide +kernel
theorem dX0_until_12 : decode cX0_until 12 = .ok (.bipush 10, 2) := by decide +kernel
theorem dX0_until_14 : decode cX0_until 14 = .ok (.if_icmp .gt 44, 3) := by decide +kernel
theorem dX0_until_17 : decode cX0_until 17 = .ok (.iload_n 3, 1) := by decide +kernel
theorem dX0_until_18 : decode cX0_until 18 = .ok (.iload_n 1, 1) := by decide +kernel
theorem dX0_until_19 : decode cX0_until 19 = .ok (.aload_n 0, 1) := by decide +kernel
theorem dX0_until_20 : decode cX0_until 20 = .ok (.getfield 24, 3) := by decide +kernel
theorem dX0_until_23 : decode cX0_until 23 = .ok (.iload_n 3, 1) := by decide +kernel
theorem dX0_until_24 : decode cX0_until 24 = .ok (.invokevirtual 44, 3) := by decide +kernel
theorem dX0_until_27 : decode cX0_until 27 = .ok (.iand, 1) := by decide +kernel
theorem dX0_until_28 : decode cX0_until 28 = .ok (.ior, 1) := by decide +kernel
theorem dX0_until_29 : decode cX0_until 29 = .ok (.istore 5, 2) := by decide +kernel
theorem dX0_until_31 : decode cX0_until 31 = .ok (.iload 5, 2) := by decide +kernel
theorem dX0_until_33 : decode cX0_until 33 = .ok (.iload_n 3, 1) := by decide +kernel
theorem dX0_until_34 : decode cX0_until 34 = .ok (.if_icmp .ne 5, 3) := by decide +kernel
theorem dX0_until_37 : decode cX0_until 37 = .ok (.iload_n 3, 1) := by decide +kernel
theorem dX0_until_38 : decode cX0_until 38 = .ok (.ireturn, 1) := by decide +kernel
theorem dX0_until_39 : decode cX0_until 39 = .ok (.iload 5, 2) := by decide +kernel
theorem dX0_until_41 : decode cX0_until 41 = .ok (.istore_n 3, 1) := by decide +kernel
theorem dX0_until_42 : decode cX0_until 42 = .ok (.aload_n 0, 1) := by decide +kernel
theorem dX0_until_43 : decode cX0_until 43 = .ok (.dup, 1) := by decide +kernel
theorem dX0_until_44 : decode cX0_until 44 = .ok (.getfield 18, 3) := by decide +kernel
theorem dX0_until_47 : decode cX0_until 47 = .ok (.iconst 1, 1) := by decide +kernel
theorem dX0_until_48 : decode cX0_until 48 = .ok (.iadd, 1) := by decide +kernel
theorem dX0_until_49 : decode cX0_until 49 = .ok (.putfield 18, 3) := by decide +kernel
theorem dX0_until_52 : decode cX0_until 52 = .ok (.iinc 4 1, 3) := by decide +kernel
theorem dX0_until_55 : decode cX0_until 55 = .ok (.goto (-45), 3) := by decide +kernel
theorem dX0_until_58 : decode cX0_until 58 = .ok (.iload_n 3, 1) := by decide +kernel
theorem dX0_until_59 : decode cX0_until 59 = .ok (.ireturn, 1) := by decide +kernel
theorem dX0_always_0 : decode cX0_always 0 = .ok (.iload_n 1, 1) := by decide +kernel
theorem dX0_always_1 : decode cX0_always 1 = .ok (.istore_n 2, 1) := by decide +kernel
theorem dX0_always_2 : decode cX0_always 2 = .ok (.iconst 0, 1) := by decide +kernel
theorem dX0_always_3 : decode cX0_always 3 = .ok (.istore_n 3, 1) := by decide +kernel
theorem dX0_always_4 : decode cX0_always 4 = .ok (.iload_n 3, 1) := by decide +kernel
theorem dX0_always_5 : decode cX0_always 5 = .ok (.bipush 10, 2) := by decide +kernel
theorem dX0_always_7 : decode cX0_always 7 = .ok (.if_icmp .gt 87, 3) := by decide +kernel
theorem dX0_always_10 : decode cX0_always 10 = .ok (.iload_n 2, 1) := by decide +kernel
theorem dX0_always_11 : decode cX0_always 11 = .ok (.aload_n 0, 1) := by decide +kernel
theorem dX0_always_12 : decode cX0_always 12 = .ok (.getfield 21, 3) := by decide +kernel
theorem dX0_always_15 : decode cX0_always 15 = .ok (.iand, 1) := by decide +kernel
theorem dX0_always_16 : decode cX0_always 16 = .ok (.istore 4, 2) := by decide +kernel
theorem dX0_always_18 : decode cX0_always 18 = .ok (.iconst 0, 1) := by decide +kernel
theorem dX0_always_19 : decode cX0_always 19 = .ok (.istore 5, 2) := by decide +kernel
theorem dX0_always_21 : decode cX0_always 21 = .ok (.iconst (-1), 1) := by decide +kernel
theorem dX0_always_22 : decode cX0_always 22 = .ok (.istore 6, 2) := by decide +kernel
theorem dX0_always_24 : decode cX0_always 24 = .ok (.iconst 0, 1) := by decide +kernel
theorem dX0_always_25 : decode cX0_always 25 = .ok (.istore 7, 2) := by decide +kernel
theorem dX0_always_27 : decode cX0_always 27 = .ok (.iload 7, 2) := by decide +kernel
theorem dX0_always_29 : decode cX0_always 29 = .ok (.bipush 10, 2) := by decide +kernel
theorem dX0_always_31 : decode cX0_always 31 = .ok (.if_icmp .gt 36, 3) := by decide +kernel
theorem dX0_always_34 : decode cX0_always 34 = .ok (.iload 5, 2) := by decide +kernel
theorem dX0_always_36 : decode cX0_always 36 = .ok (.iload 6, 2) := by decide +kernel
theorem dX0_always_38 : decode cX0_always 38 = .ok (.if_icmp .eq 29, 3) := by decide +kernel
theorem dX0_always_41 : decode cX0_always 41 = .ok (.iload 5, 2) := by decide +kernel
theorem dX0_always_43 : decode cX0_always 43 = .ok (.istore 6, 2) := by decide +kernel
theorem dX0_always_45 : decode cX0_always 45 = .ok (.iload_n 2, 1) := by decide +kernel
theorem dX0_always_46 : decode cX0_always 46 = .ok (.aload_n 0, 1) := by decide +kernel
theorem dX0_always_47 : decode cX0_always 47 = .ok (.getfield 24, 3) := by decide +kernel
theorem dX0_always_50 : decode cX0_always 50 = .ok (.iload 4, 2) := by decide +kernel
theorem dX0_always_52 : decode cX0_always 52 = .ok (.iload 5, 2) := by decide +kernel
theorem dX0_always_54 : decode cX0_always 54 = .ok (.ior, 1) := by decide +kernel
theorem dX0_always_55 : decode cX0_always 55 = .ok (.invokevirtual 44, 3) := by decide +kernel
theorem dX0_always_58 : decode cX0_always 58 = .ok (.iand, 1) := by decide +kernel
theorem dX0_always_59 : decode cX0_always 59 = .ok (.istore 5, 2) := by decide +kernel
theorem dX0_always_61 : decode cX0_always 61 = .ok (.iinc 7 1, 3) := by decide +kernel
theorem dX0_always_64 : decode cX0_always 64 = .ok (.goto (-37), 3) := by decide +kernel
theorem dX0_always_67 : decode cX0_always 67 = .ok (.iload 5, 2) := by decide +kernel
theorem dX0_always_69 : decode cX0_always 69 = .ok (.iload_n 2, 1) := by decide +kernel
theorem dX0_always_70 : decode cX0_always 70 = .ok (.if_icmp .ne 5, 3) := by decide +kernel
theorem dX0_always_73 : decode cX0_always 73 = .ok (.iload_n 2, 1) := by decide +kernel
theorem dX0_always_74 : decode cX0_always 74 = .ok (.ireturn, 1) := by decide +kernel
theorem dX0_always_75 : decode cX0_always 75 = .ok (.iload 5, 2) := by decide +kernel
theorem dX0_always_77 : decode cX0_always 77 = .ok (.istore_n 2, 1) := by decide +kernel
theorem dX0_always_78 : decode cX0_always 78 = .ok (.aload_n 0, 1) := by decide +kernel
theorem dX0_always_79 : decode cX0_always 79 = .ok (.dup, 1) := by decide +kernel
theorem dX0_always_80 : decode cX0_always 80 = .ok (.getfield 18, 3) := by decide +kernel
theorem dX0_always_83 : decode cX0_always 83 = .ok (.iconst 1, 1) := by decide +kernel
theorem dX0_always_84 : decode cX0_always 84 = .ok (.iadd, 1) := by decide +kernel
theorem dX0_always_85 : decode cX0_always 85 = .ok (.putfield 18, 3) := by decide +kernel
theorem dX0_always_88 : decode cX0_always 88 = .ok (.iinc 3 1, 3) := by decide +kernel
theorem dX0_always_91 : decode cX0_always 91 = .ok (.goto (-87), 3) := by decide +kernel
theorem dX0_always_94 : decode cX0_always 94 = .ok (.iload_n 2, 1) := by decide +kernel
theorem dX0_always_95 : decode cX0_always 95 = .ok (.ireturn, 1) := by decide +kernel
theorem dX1_init_0 : decode cX1_init 0 = .ok (.aload_n 0, 1) := by decide +kernel
theorem dX1_init_1 : decode cX1_init 1 = .ok (.invokespecial 3, 3) := by decide +kernel
theorem dX1_init_4 : decode cX1_init 4 = .ok (.aload_n 0, 1) := by decide +kernel
theorem dX1_init_5 : decode cX1_init 5 = .ok (.iconst 0, 1) := by decide +kernel
theorem dX1_init_6 : decode cX1_init 6 = .ok (.putfield 9, 3) := by decide +kernel
theorem dX1_init_9 : decode cX1_init 9 = .ok (.aload_n 0, 1) := by decide +kernel
theorem dX1_init_10 : decode cX1_init 10 = .ok (.iconst 0, 1) := by decide +kernel
theorem dX1_init_11 : decode cX1_init 11 = .ok (.putfield 15, 3) := by decide +kernel
theorem dX1_init_14 : decode cX1_init 14 = .ok (.aload_n 0, 1) := by decide +kernel
theorem dX1_init_15 : decode cX1_init 15 = .ok (.bipush 6, 2) := by decide +kernel
theorem dX1_init_17 : decode cX1_init 17 = .ok (.anewarray 18, 3) := by decide +kernel
theorem dX1_init_20 : decode cX1_init 20 = .ok (.putfield 20, 3) := by decide +kernel
theorem dX1_init_23 : decode cX1_init 23 = .ok (.iconst 0, 1) := by decide +kernel
theorem dX1_init_24 : decode cX1_init 24 = .ok (.istore_n 1, 1) := by decide +kernel
theorem dX1_init_25 : decode cX1_init 25 = .ok (.iload_n 1, 1) := by decide +kernel
theorem dX1_init_26 : decode cX1_init 26 = .ok (.bipush 6, 2) := by decide +kernel
theorem dX1_init_28 : decode cX1_init 28 = .ok (.if_icmp .ge 22, 3) := by decide +kernel
theorem dX1_init_31 : decode cX1_init 31 = .ok (.aload_n 0, 1) := by decide +kernel
theorem dX1_init_32 : decode cX1_init 32 = .ok (.getfield 20, 3) := by decide +kernel
theorem dX1_init_35 : decode cX1_init 35 = .ok (.iload_n 1, 1) := by decide +kernel
theorem dX1_init_36 : decode cX1_init 36 = .ok (.new 18, 3) := by decide +kernel
theorem dX1_init_39 : decode cX1_init 39 = .ok (.dup, 1) := by decide +kernel
theorem dX1_init_40 : decode cX1_init 40 = .ok (.invokespecial 24, 3) := by decide +kernel
theorem dX1_init_43 : decode cX1_init 43 = .ok (.aastore, 1) := by decide +kernel
theorem dX1_init_44 : decode cX1_init 44 = .ok (.iinc 1 1, 3) := by decide +kernel
theorem dX1_init_47 : decode cX1_init 47 = .ok (.goto (-22), 3) := by decide +kernel
theorem dX1_init_50 : decode cX1_init 50 = .ok (.return_, 1) := by decide +kernel
theorem dX1_save_0 : decode cX1_save 0 = .ok (.aload_n 0, 1) := by decide +kernel
theorem dX1_save_1 : decode cX1_save 1 = .ok (.getfield 9, 3) := by decide +kernel
theorem dX1_save_4 : decode cX1_save 4 = .ok (.bipush 6, 2) := by decide +kernel
theorem dX1_save_6 : decode cX1_save 6 = .ok (.if_icmp .ne 26, 3) := by decide +kernel
theorem dX1_save_9 : decode cX1_save 9 = .ok (.aload_n 0, 1) := by decide +kernel
theorem dX1_save_10 : decode cX1_save 10 = .ok (.aload_n 0, 1) := by decide +kernel
theorem dX1_save_11 : decode cX1_save 11 = .ok (.getfield 15, 3) := by decide +kernel
theorem dX1_save_14 : decode cX1_save 14 = .ok (.iconst 1, 1) := by decide +kernel
theorem dX1_save_15 : decode cX1_save 15 = .ok (.iadd, 1) := by decide +kernel
theorem dX1_save_16 : decode cX1_save 16 = .ok (.bipush 6, 2) := by decide +kernel
theorem dX1_save_18 : decode cX1_save 18 = .ok (.irem, 1) := by decide +kernel
theorem dX1_save_19 : decode cX1_save 19 = .ok (.putfield 15, 3) := by decide +kernel
theorem dX1_save_22 : decode cX1_save 22 = .ok (.aload_n 0, 1) := by decide +kernel
theorem dX1_save_23 : decode cX1_save 23 = .ok (.dup, 1) := by decide +kernel
theorem dX1_save_24 : decode cX1_save 24 = .ok (.getfield 9, 3) := by decide +kernel
theorem dX1_save_27 : decode cX1_save 27 = .ok (.iconst 1, 1) := by decide +kernel
theorem dX1_save_28 : decode cX1_save 28 = .ok (.isub, 1) := by decide +kernel
theorem dX1_save_29 : decode cX1_save 29 = .ok (.putfield 9, 3) := by decide +kernel
theorem dX1_save_32 : decode cX1_save 32 = .ok (.aload_n 0, 1) := by decide +kernel
theorem dX1_save_33 : decode cX1_save 33 = .ok (.getfield 20, 3) := by decide +kernel
theorem dX1_save_36 : decode cX1_save 36 = .ok (.aload_n 0, 1) := by decide +kernel
theorem dX1_save_37 : decode cX1_save 37 = .ok (.getfield 15, 3) := by decide +kernel
theorem dX1_save_40 : decode cX1_save 40 = .ok (.aload_n 0, 1) := by decide +kernel
theorem dX1_save_41 : decode cX1_save 41 = .ok (.getfield 9, 3) := by decide +kernel
theorem dX1_save_44 : decode cX1_save 44 = .ok (.iadd, 1) := by decide +kernel
theorem dX1_save_45 : decode cX1_save 45 = .ok (.bipush 6, 2) := by decide +kernel
theorem dX1_save_47 : decode cX1_save 47 = .ok (.irem, 1) := by decide +kernel
theorem dX1_save_48 : decode cX1_save 48 = .ok (.aaload, 1) := by decide +kernel
theorem dX1_save_49 : decode cX1_save 49 = .ok (.aload_n 1, 1) := by decide +kernel
theorem dX1_save_50 : decode cX1_save 50 = .ok (.invokevirtual 25, 3) := by decide +kernel
theorem dX1_save_53 : decode cX1_save 53 = .ok (.aload_n 0, 1) := by decide +kernel
theorem dX1_save_54 : decode cX1_save 54 = .ok (.dup, 1) := by decide +kernel
theorem dX1_save_55 : decode cX1_save 55 = .ok (.getfield 9, 3) := by decide +kernel
theorem dX1_save_58 : decode cX1_save 58 = .ok (.iconst 1, 1) := by decide +kernel
theorem dX1_save_59 : decode cX1_save 59 = .ok (.iadd, 1) := by decide +kernel
theorem dX1_save_60 : decode cX1_save 60 = .ok (.putfield 9, 3) := by decide +kernel
theorem dX1_save_63 : decode cX1_save 63 = .ok (.return_, 1) := by decide +kernel
theorem dX1_restore_0 : decode cX1_restore 0 = .ok (.aload_n 0, 1) := by decide +kernel
theorem dX1_restore_1 : decode cX1_restore 1 = .ok (.getfield 9, 3) := by decide +kernel
theorem dX1_restore_4 : decode cX1_restore 4 = .ok (.ifCond .le 34, 3) := by decide +kernel
theorem dX1_restore_7 : decode cX1_restore 7 = .ok (.aload_n 0, 1) := by decide +kernel
theorem dX1_restore_8 : decode cX1_restore 8 = .ok (.dup, 1) := by decide +kernel
theorem dX1_restore_9 : decode cX1_restore 9 = .ok (.getfield 9, 3) := by decide +kernel
theorem dX1_restore_12 : decode cX1_restore 12 = .ok (.iconst 1, 1) := by decide +kernel
theorem dX1_restore_13 : decode cX1_restore 13 = .ok (.isub, 1) := by decide +kernel
theorem dX1_restore_14 : decode cX1_restore 14 = .ok (.putfield 9, 3) := by decide +kernel
theorem dX1_restore_17 : decode cX1_restore 17 = .ok (.aload_n 1, 1) := by decide +kernel
theorem dX1_restore_18 : decode cX1_restore 18 = .ok (.aload_n 0, 1) := by decide +kernel
theorem dX1_restore_19 : decode cX1_restore 19 = .ok (.getfield 20, 3) := by decide +kernel
theorem dX1_restore_22 : decode cX1_restore 22 = .ok (.aload_n 0, 1) := by decide +kernel
theorem dX1_restore_23 : decode cX1_restore 23 = .ok (.getfield 15, 3) := by decide +kernel
theorem dX1_restore_26 : decode cX1_restore 26 = .ok (.aload_n 0, 1) := by decide +kernel
theorem dX1_restore_27 : decode cX1_restore 27 = .ok (.getfield 9, 3) := by decide +kernel
theorem dX1_restore_30 : decode cX1_restore 30 = .ok (.iadd, 1) := by decide +kernel
theorem dX1_restore_31 : decode cX1_restore 31 = .ok (.bipush 6, 2) := by decide +kernel
theorem dX1_restore_33 : decode cX1_restore 33 = .ok (.irem, 1) := by decide +kernel
theorem dX1_restore_34 : decode cX1_restore 34 = .ok (.aaload, 1) := by decide +kernel
theorem dX1_restore_35 : decode cX1_restore 35 = .ok (.invokevirtual 25, 3) := by decide +kernel
theorem dX1_restore_38 : decode cX1_restore 38 = .ok (.return_, 1) := by decide +kernel
theorem dX2_init_0 : decode cX2_init 0 = .ok (.aload_n 0, 1) := by decide +kernel
theorem dX2_init_1 : decode cX2_init 1 = .ok (.invokespecial 3, 3) := by decide +kernel
theorem dX2_init_4 : decode cX2_init 4 = .ok (.aload_n 0, 1) := by decide +kernel
theorem dX2_init_5 : decode cX2_init 5 = .ok (.iconst 0, 1) := by decide +kernel
theorem dX2_init_6 : decode cX2_init 6 = .ok (.putfield 9, 3) := by decide +kernel
theorem dX2_init_9 : decode cX2_init 9 = .ok (.aload_n 0, 1) := by decide +kernel
theorem dX2_init_10 : decode cX2_init 10 = .ok (.bipush 40, 2) := by decide +kernel
theorem dX2_init_12 : decode cX2_init 12 = .ok (.newarray .char, 2) := by decide +kernel
theorem dX2_init_14 : decode cX2_init 14 = .ok (.putfield 15, 3) := by decide +kernel
theorem dX2_init_17 : decode cX2_init 17 = .ok (.aload_n 0, 1) := by decide +kernel
theorem dX2_init_18 : decode cX2_init 18 = .ok (.bipush 40, 2) := by decide +kernel
theorem dX2_init_20 : decode cX2_init 20 = .ok (.newarray .int, 2) := by decide +kernel
theorem dX2_init_22 : decode cX2_init 22 = .ok (.putfield 19, 3) := by decide +kernel
theorem dX2_init_25 : decode cX2_init 25 = .ok (.aload_n 0, 1) := by decide +kernel
theorem dX2_init_26 : decode cX2_init 26 = .ok (.bipush 40, 2) := by decide +kernel
theorem dX2_init_28 : decode cX2_init 28 = .ok (.newarray .int, 2) := by decide +kernel
theorem dX2_init_30 : decode cX2_init 30 = .ok (.putfield 23, 3) := by decide +kernel
theorem dX2_init_33 : decode cX2_init 33 = .ok (.aload_n 0, 1) := by decide +kernel
theorem dX2_init_34 : decode cX2_init 34 = .ok (.bipush 40, 2) := by decide +kernel
theorem dX2_init_36 : decode cX2_init 36 = .ok (.newarray .int, 2) := by decide +kernel
theorem dX2_init_38 : decode cX2_init 38 = .ok (.putfield 26, 3) := by decide +kernel
theorem dX2_init_41 : decode cX2_init 41 = .ok (.aload_n 0, 1) := by decide +kernel
theorem dX2_init_42 : decode cX2_init 42 = .ok (.bipush 40, 2) := by decide +kernel
theorem dX2_init_44 : decode cX2_init 44 = .ok (.newarray .int, 2) := by decide +kernel
theorem dX2_init_46 : decode cX2_init 46 = .ok (.putfield 29, 3) := by decide +kernel
theorem dX2_init_49 : decode cX2_init 49 = .ok (.aload_n 0, 1) := by decide +kernel
theorem dX2_init_50 : decode cX2_init 50 = .ok (.aload_n 1, 1) := by decide +kernel
theorem dX2_init_51 : decode cX2_init 51 = .ok (.putfield 32, 3) := by decide +kernel
theorem dX2_init_54 : decode cX2_init 54 = .ok (.aload_n 0, 1) := by decide +kernel
theorem dX2_init_55 : decode cX2_init 55 = .ok (.new 36, 3) := by decide +kernel
theorem dX2_init_58 : decode cX2_init 58 = .ok (.dup, 1) := by decide +kernel
theorem dX2_init_59 : decode cX2_init 59 = .ok (.aload_n 1, 1) := by decide +kernel
theorem dX2_init_60 : decode cX2_init 60 = .ok (.invokespecial 38, 3) := by decide +kernel
theorem dX2_init_63 : decode cX2_init 63 = .ok (.putfield 41, 3) := by decide +kernel
theorem dX2_init_66 : decode cX2_init 66 = .ok (.return_, 1) := by decide +kernel
theorem dX2_live_0 : decode cX2_live 0 = .ok (.aload_n 0, 1) := by decide +kernel
theorem dX2_live_1 : decode cX2_live 1 = .ok (.getfield 41, 3) := by decide +kernel
theorem dX2_live_4 : decode cX2_live 4 = .ok (.invokevirtual 45, 3) := by decide +kernel
theorem dX2_live_7 : decode cX2_live 7 = .ok (.aload_n 0, 1) := by decide +kernel
theorem dX2_live_8 : decode cX2_live 8 = .ok (.getfield 41, 3) := by decide +kernel
theorem dX2_live_11 : decode cX2_live 11 = .ok (.getfield 48, 3) := by decide +kernel
theorem dX2_live_14 : decode cX2_live 14 = .ok (.ireturn, 1) := by decide +kernel
theorem dX2_find_0 : decode cX2_find 0 = .ok (.aload_n 0, 1) := by decide +kernel
theorem dX2_find_1 : decode cX2_find 1 = .ok (.iload_n 1, 1) := by decide +kernel
theorem dX2_find_2 : decode cX2_find 2 = .ok (.invokevirtual 51, 3) := by decide +kernel
theorem dX2_find_5 : decode cX2_find 5 = .ok (.aload_n 0, 1) := by decide +kernel
theorem dX2_find_6 : decode cX2_find 6 = .ok (.invokevirtual 55, 3) := by decide +kernel
theorem dX2_find_9 : decode cX2_find 9 = .ok (.aload_n 0, 1) := by decide +kernel
theorem dX2_find_10 : decode cX2_find 10 = .ok (.iconst 0, 1) := by decide +kernel
theorem dX2_find_11 : decode cX2_find 11 = .ok (.invokevirtual 58, 3) := by decide +kernel
theorem dX2_find_14 : decode cX2_find 14 = .ok (.ireturn, 1) := by decide +kernel
theorem dX2_readSigns_0 : decode cX2_readSigns 0 = .ok (.aload_n 0, 1) := by decide +kernel
theorem dX2_readSigns_1 : decode cX2_readSigns 1 = .ok (.aload_n 0, 1) := by decide +kernel
theorem dX2_readSigns_2 : decode cX2_readSigns 2 = .ok (.getfield 32, 3) := by decide +kernel
theorem dX2_readSigns_5 : decode cX2_readSigns 5 = .ok (.iload_n 1, 1) := by decide +kernel
theorem dX2_readSigns_6 : decode cX2_readSigns 6 = .ok (.invokevirtual 62, 3) := by decide +kernel
theorem dX2_readSigns_9 : decode cX2_readSigns 9 = .ok (.putfield 9, 3) := by decide +kernel
theorem dX2_readSigns_12 : decode cX2_readSigns 12 = .ok (.aload_n 0, 1) := by decide +kernel
theorem dX2_readSigns_13 : decode cX2_readSigns 13 = .ok (.getfield 9, 3) := by decide +kernel
theorem dX2_readSigns_16 : decode cX2_readSigns 16 = .ok (.iconst 1, 1) := by decide +kernel
theorem dX2_readSigns_17 : decode cX2_readSigns 17 = .ok (.isub, 1) := by decide +kernel
theorem dX2_readSigns_18 : decode cX2_readSigns 18 = .ok (.istore_n 2, 1) := by decide +kernel
theorem dX2_readSigns_19 : decode cX2_readSigns 19 = .ok (.iload_n 2, 1) := by decide +kernel
theorem dX2_readSigns_20 : decode cX2_readSigns 20 = .ok (.ifCond .lt 192, 3) := by decide +kernel
theorem dX2_readSigns_23 : decode cX2_readSigns 23 = .ok (.aload_n 0, 1) := by decide +kernel
theorem dX2_readSigns_24 : decode cX2_readSigns 24 = .ok (.getfield 15, 3) := by decide +kernel
theorem dX2_readSigns_27 : decode cX2_readSigns 27 = .ok (.iload_n 2, 1) := by decide +kernel
theorem dX2_readSigns_28 : decode cX2_readSigns 28 = .ok (.aload_n 0, 1) := by decide +kernel
theorem dX2_readSigns_29 : decode cX2_readSigns 29 = .ok (.getfield 32, 3) := by decide +kernel
theorem dX2_readSigns_32 : decode cX2_readSigns 32 = .ok (.iload_n 1, 1) := by decide +kernel
theorem dX2_readSigns_33 : decode cX2_readSigns 33 = .ok (.iload_n 2, 1) := by decide +kernel
theorem dX2_readSigns_34 : decode cX2_readSigns 34 = .ok (.invokevirtual 67, 3) := by decide +kernel
theorem dX2_readSigns_37 : decode cX2_readSigns 37 = .ok (.castore, 1) := by decide +kernel
theorem dX2_readSigns_38 : decode cX2_readSigns 38 = .ok (.aload_n 0, 1) := by decide +kernel
theorem dX2_readSigns_39 : decode cX2_readSigns 39 = .ok (.getfield 15, 3) := by decide +kernel
theorem dX2_readSigns_42 : decode cX2_readSigns 42 = .ok (.iload_n 2, 1) := by decide +kernel
theorem dX2_readSigns_43 : decode cX2_readSigns 43 = .ok (.caload, 1) := by decide +kernel
theorem dX2_readSigns_44 : decode cX2_readSigns 44 = .ok (.lookupswitch 153 #[(33, 101), (38, 113), (65, 125), (69, 125), (70, 84), (71, 84), (85, 84), (88, 84), (124, 113)], 84) := by decide +kernel
theorem dX2_readSigns_128 : decode cX2_readSigns 128 = .ok (.aload_n 0, 1) := by decide +kernel
theorem dX2_readSigns_129 : decode cX2_readSigns 129 = .ok (.getfield 19, 3) := by decide +kernel
theorem dX2_readSigns_132 : decode cX2_readSigns 132 = .ok (.iload_n 2, 1) := by decide +kernel
theorem dX2_readSigns_133 : decode cX2_readSigns 133 = .ok (.iconst (-1), 1) := by decide +kernel
theorem dX2_readSigns_134 : decode cX2_readSigns 134 = .ok (.iastore, 1) := by decide +kernel
theorem dX2_readSigns_135 : decode cX2_readSigns 135 = .ok (.aload_n 0, 1) := by decide +kernel
theorem dX2_readSigns_136 : decode cX2_readSigns 136 = .ok (.getfield 23, 3) := by decide +kernel
theorem dX2_readSigns_139 : decode cX2_readSigns 139 = .ok (.iload_n 2, 1) := by decide +kernel
theorem dX2_readSigns_140 : decode cX2_readSigns 140 = .ok (.iconst 0, 1) := by decide +kernel
theorem dX2_readSigns_141 : decode cX2_readSigns 141 = .ok (.iastore, 1) := by decide +kernel
theorem dX2_readSigns_142 : decode cX2_readSigns 142 = .ok (.goto 64, 3) := by decide +kernel
theorem dX2_readSigns_145 : decode cX2_readSigns 145 = .ok (.aload_n 0, 1) := by decide +kernel
theorem dX2_readSigns_146 : decode cX2_readSigns 146 = .ok (.iload_n 2, 1) := by decide +kernel
theorem dX2_readSigns_147 : decode cX2_readSigns 147 = .ok (.iload_n 2, 1) := by decide +kernel
theorem dX2_readSigns_148 : decode cX2_readSigns 148 = .ok (.iconst 1, 1) := by decide +kernel
theorem dX2_readSigns_149 : decode cX2_readSigns 149 = .ok (.iadd, 1) := by decide +kernel
theorem dX2_readSigns_150 : decode cX2_readSigns 150 = .ok (.iconst 1, 1) := by decide +kernel
theorem dX2_readSigns_151 : decode cX2_readSigns 151 = .ok (.invokevirtual 71, 3) := by decide +kernel
theorem dX2_readSigns_154 : decode cX2_readSigns 154 = .ok (.goto 52, 3) := by decide +kernel
theorem dX2_readSigns_157 : decode cX2_readSigns 157 = .ok (.aload_n 0, 1) := by decide +kernel
theorem dX2_readSigns_158 : decode cX2_readSigns 158 = .ok (.iload_n 2, 1) := by decide +kernel
theorem dX2_readSigns_159 : decode cX2_readSigns 159 = .ok (.iload_n 2, 1) := by decide +kernel
theorem dX2_readSigns_160 : decode cX2_readSigns 160 = .ok (.iconst 1, 1) := by decide +kernel
theorem dX2_readSigns_161 : decode cX2_readSigns 161 = .ok (.iadd, 1) := by decide +kernel
theorem dX2_readSigns_162 : decode cX2_readSigns 162 = .ok (.iconst 2, 1) := by decide +kernel
theorem dX2_readSigns_163 : decode cX2_readSigns 163 = .ok (.invokevirtual 71, 3) := by decide +kernel
theorem dX2_readSigns_166 : decode cX2_readSigns 166 = .ok (.goto 40, 3) := by decide +kernel
theorem dX2_readSigns_169 : decode cX2_readSigns 169 = .ok (.aload_n 0, 1) := by decide +kernel
theorem dX2_readSigns_170 : decode cX2_readSigns 170 = .ok (.iload_n 2, 1) := by decide +kernel
theorem dX2_readSigns_171 : decode cX2_readSigns 171 = .ok (.iload_n 2, 1) := by decide +kernel
theorem dX2_readSigns_172 : decode cX2_readSigns 172 = .ok (.iconst 2, 1) := by decide +kernel
theorem dX2_readSigns_173 : decode cX2_readSigns 173 = .ok (.iadd, 1) := by decide +kernel
theorem dX2_readSigns_174 : decode cX2_readSigns 174 = .ok (.aload_n 0, 1) := by decide +kernel
theorem dX2_readSigns_175 : decode cX2_readSigns 175 = .ok (.iload_n 2, 1) := by decide +kernel
theorem dX2_readSigns_176 : decode cX2_readSigns 176 = .ok (.iconst 1, 1) := by decide +kernel
theorem dX2_readSigns_177 : decode cX2_readSigns 177 = .ok (.iadd, 1) := by decide +kernel
theorem dX2_readSigns_178 : decode cX2_readSigns 178 = .ok (.invokevirtual 75, 3) := by decide +kernel
theorem dX2_readSigns_181 : decode cX2_readSigns 181 = .ok (.bipush 85, 2) := by decide +kernel
theorem dX2_readSigns_183 : decode cX2_readSigns 183 = .ok (.if_icmp .ne 7, 3) := by decide +kernel
theorem dX2_readSigns_186 : decode cX2_readSigns 186 = .ok (.iconst 2, 1) := by decide +kernel
theorem dX2_readSigns_187 : decode cX2_readSigns 187 = .ok (.goto 4, 3) := by decide +kernel
theorem dX2_readSigns_190 : decode cX2_readSigns 190 = .ok (.iconst 1, 1) := by decide +kernel
theorem dX2_readSigns_191 : decode cX2_readSigns 191 = .ok (.invokevirtual 71, 3) := by decide +kernel
theorem dX2_readSigns_194 : decode cX2_readSigns 194 = .ok (.goto 12, 3) := by decide +kernel
theorem dX2_readSigns_197 : decode cX2_readSigns 197 = .ok (.aload_n 0, 1) := by decide +kernel
theorem dX2_readSigns_198 : decode cX2_readSigns 198 = .ok (.iload_n 2, 1) := by decide +kernel
theorem dX2_readSigns_199 : decode cX2_readSigns 199 = .ok (.iload_n 2, 1) := by decide +kernel
theorem dX2_readSigns_200 : decode cX2_readSigns 200 = .ok (.iconst 1, 1) := by decide +kernel
theorem dX2_readSigns_201 : decode cX2_readSigns 201 = .ok (.iadd, 1) := by decide +kernel
theorem dX2_readSigns_202 : decode cX2_readSigns 202 = .ok (.iconst 0, 1) := by decide +kernel
theorem dX2_readSigns_203 : decode cX2_readSigns 203 = .ok (.invokevirtual 71, 3) := by decide +kernel
theorem dX2_readSigns_206 : decode cX2_readSigns 206 = .ok (.iinc 2 (-1), 3) := by decide +kernel
theorem dX2_readSigns_209 : decode cX2_readSigns 209 = .ok (.goto (-190), 3) := by decide +kernel
theorem dX2_readSigns_212 : decode cX2_readSigns 212 = .ok (.return_, 1) := by decide +kernel
theorem dX2_putShape_0 : decode cX2_putShape 0 = .ok (.iload_n 2, 1) := by decide +kernel
theorem dX2_putShape_1 : decode cX2_putShape 1 = .ok (.istore 4, 2) := by decide +kernel
theorem dX2_putShape_3 : decode cX2_putShape 3 = .ok (.iconst 0, 1) := by decide +kernel
theorem dX2_putShape_4 : decode cX2_putShape 4 = .ok (.istore 5, 2) := by decide +kernel
theorem dX2_putShape_6 : decode cX2_putShape 6 = .ok (.iconst 0, 1) := by decide +kernel
theorem dX2_putShape_7 : decode cX2_putShape 7 = .ok (.istore 6, 2) := by decide +kernel
theorem dX2_putShape_9 : decode cX2_putShape 9 = .ok (.iload 6, 2) := by decide +kernel
theorem dX2_putShape_11 : decode cX2_putShape 11 = .ok (.iload_n 3, 1) := by decide +kernel
theorem dX2_putShape_12 : decode cX2_putShape 12 = .ok (.if_icmp .ge 30, 3) := by decide +kernel
theorem dX2_putShape_15 : decode cX2_putShape 15 = .ok (.iload 5, 2) := by decide +kernel
theorem dX2_putShape_17 : decode cX2_putShape 17 = .ok (.aload_n 0, 1) := by decide +kernel
theorem dX2_putShape_18 : decode cX2_putShape 18 = .ok (.iload 4, 2) := by decide +kernel
theorem dX2_putShape_20 : decode cX2_putShape 20 = .ok (.invokevirtual 78, 3) := by decide +kernel
theorem dX2_putShape_23 : decode cX2_putShape 23 = .ok (.invokestatic 81, 3) := by decide +kernel
theorem dX2_putShape_26 : decode cX2_putShape 26 = .ok (.istore 5, 2) := by decide +kernel
theorem dX2_putShape_28 : decode cX2_putShape 28 = .ok (.aload_n 0, 1) := by decide +kernel
theorem dX2_putShape_29 : decode cX2_putShape 29 = .ok (.iload 4, 2) := by decide +kernel
theorem dX2_putShape_31 : decode cX2_putShape 31 = .ok (.invokevirtual 87, 3) := by decide +kernel
theorem dX2_putShape_34 : decode cX2_putShape 34 = .ok (.istore 4, 2) := by decide +kernel
theorem dX2_putShape_36 : decode cX2_putShape 36 = .ok (.iinc 6 1, 3) := by decide +kernel
theorem dX2_putShape_39 : decode cX2_putShape 39 = .ok (.goto (-30), 3) := by decide +kernel
theorem dX2_putShape_42 : decode cX2_putShape 42 = .ok (.aload_n 0, 1) := by decide +kernel
theorem dX2_putShape_43 : decode cX2_putShape 43 = .ok (.getfield 19, 3) := by decide +kernel
theorem dX2_putShape_46 : decode cX2_putShape 46 = .ok (.iload_n 1, 1) := by decide +kernel
theorem dX2_putShape_47 : decode cX2_putShape 47 = .ok (.iload 4, 2) := by decide +kernel
theorem dX2_putShape_49 : decode cX2_putShape 49 = .ok (.iload_n 1, 1) := by decide +kernel
theorem dX2_putShape_50 : decode cX2_putShape 50 = .ok (.isub, 1) := by decide +kernel
theorem dX2_putShape_51 : decode cX2_putShape 51 = .ok (.iastore, 1) := by decide +kernel
theorem dX2_putShape_52 : decode cX2_putShape 52 = .ok (.aload_n 0, 1) := by decide +kernel
theorem dX2_putShape_53 : decode cX2_putShape 53 = .ok (.getfield 23, 3) := by decide +kernel
theorem dX2_putShape_56 : decode cX2_putShape 56 = .ok (.iload_n 1, 1) := by decide +kernel
theorem dX2_putShape_57 : decode cX2_putShape 57 = .ok (.iconst 1, 1) := by decide +kernel
theorem dX2_putShape_58 : decode cX2_putShape 58 = .ok (.iload 5, 2) := by decide +kernel
theorem dX2_putShape_60 : decode cX2_putShape 60 = .ok (.iadd, 1) := by decide +kernel
theorem dX2_putShape_61 : decode cX2_putShape 61 = .ok (.iastore, 1) := by decide +kernel
theorem dX2_putShape_62 : decode cX2_putShape 62 = .ok (.return_, 1) := by decide +kernel
theorem dX2_findSets_0 : decode cX2_findSets 0 = .ok (.aload_n 0, 1) := by decide +kernel
theorem dX2_findSets_1 : decode cX2_findSets 1 = .ok (.getfield 41, 3) := by decide +kernel
theorem dX2_findSets_4 : decode cX2_findSets 4 = .ok (.invokevirtual 45, 3) := by decide +kernel
theorem dX2_findSets_7 : decode cX2_findSets 7 = .ok (.aload_n 0, 1) := by decide +kernel
theorem dX2_findSets_8 : decode cX2_findSets 8 = .ok (.getfield 9, 3) := by decide +kernel
theorem dX2_findSets_11 : decode cX2_findSets 11 = .ok (.iconst 1, 1) := by decide +kernel
theorem dX2_findSets_12 : decode cX2_findSets 12 = .ok (.isub, 1) := by decide +kernel
theorem dX2_findSets_13 : decode cX2_findSets 13 = .ok (.istore_n 1, 1) := by decide +kernel
theorem dX2_findSets_14 : decode cX2_findSets 14 = .ok (.iload_n 1, 1) := by decide +kernel
theorem dX2_findSets_15 : decode cX2_findSets 15 = .ok (.ifCond .lt 354, 3) := by decide +kernel
theorem dX2_findSets_18 : decode cX2_findSets 18 = .ok (.iload_n 1, 1) := by decide +kernel
theorem dX2_findSets_19 : decode cX2_findSets 19 = .ok (.iconst 1, 1) := by decide +kernel
theorem dX2_findSets_20 : decode cX2_findSets 20 = .ok (.iadd, 1) := by decide +kernel
theorem dX2_findSets_21 : decode cX2_findSets 21 = .ok (.istore_n 2, 1) := by decide +kernel
theorem dX2_findSets_22 : decode cX2_findSets 22 = .ok (.aload_n 0, 1) := by decide +kernel
theorem dX2_findSets_23 : decode cX2_findSets 23 = .ok (.getfield 41, 3) := by decide +kernel
theorem dX2_findSets_26 : decode cX2_findSets 26 = .ok (.iconst 0, 1) := by decide +kernel
theorem dX2_findSets_27 : decode cX2_findSets 27 = .ok (.putfield 90, 3) := by decide +kernel
theorem dX2_findSets_30 : decode cX2_findSets 30 = .ok (.aload_n 0, 1) := by decide +kernel
theorem dX2_findSets_31 : decode cX2_findSets 31 = .ok (.getfield 15, 3) := by decide +kernel
theorem dX2_findSets_34 : decode cX2_findSets 34 = .ok (.iload_n 1, 1) := by decide +kernel
theorem dX2_findSets_35 : decode cX2_findSets 35 = .ok (.caload, 1) := by decide +kernel
theorem dX2_findSets_36 : decode cX2_findSets 36 = .ok (.lookupswitch 278 #[(33, 190), (38, 214), (65, 141), (69, 102), (70, 92), (71, 92), (85, 92), (88, 92), (116, 262), (124, 238)], 92) := by decide +kernel
theorem dX2_findSets_128 : decode cX2_findSets 128 = .ok (.aload_n 0, 1) := by decide +kernel
theorem dX2_findSets_129 : decode cX2_findSets 129 = .ok (.getfield 26, 3) := by decide +kernel
theorem dX2_findSets_132 : decode cX2_findSets 132 = .ok (.iload_n 1, 1) := by decide +kernel
theorem dX2_findSets_133 : decode cX2_findSets 133 = .ok (.iconst (-1), 1) := by decide +kernel
theorem dX2_findSets_134 : decode cX2_findSets 134 = .ok (.iastore, 1) := by decide +kernel
theorem dX2_findSets_135 : decode cX2_findSets 135 = .ok (.goto 201, 3) := by decide +kernel
theorem dX2_findSets_138 : decode cX2_findSets 138 = .ok (.aload_n 0, 1) := by decide +kernel
theorem dX2_findSets_139 : decode cX2_findSets 139 = .ok (.getfield 26, 3) := by decide +kernel
theorem dX2_findSets_142 : decode cX2_findSets 142 = .ok (.iload_n 1, 1) := by decide +kernel
theorem dX2_findSets_143 : decode cX2_findSets 143 = .ok (.aload_n 0, 1) := by decide +kernel
theorem dX2_findSets_144 : decode cX2_findSets 144 = .ok (.getfield 41, 3) := by decide +kernel
theorem dX2_findSets_147 : decode cX2_findSets 147 = .ok (.aload_n 0, 1) := by decide +kernel
theorem dX2_findSets_148 : decode cX2_findSets 148 = .ok (.iload_n 2, 1) := by decide +kernel
theorem dX2_findSets_149 : decode cX2_findSets 149 = .ok (.invokevirtual 75, 3) := by decide +kernel
theorem dX2_findSets_152 : decode cX2_findSets 152 = .ok (.aload_n 0, 1) := by decide +kernel
theorem dX2_findSets_153 : decode cX2_findSets 153 = .ok (.iload_n 2, 1) := by decide +kernel
theorem dX2_findSets_154 : decode cX2_findSets 154 = .ok (.iconst 1, 1) := by decide +kernel
theorem dX2_findSets_155 : decode cX2_findSets 155 = .ok (.iadd, 1) := by decide +kernel
theorem dX2_findSets_156 : decode cX2_findSets 156 = .ok (.invokevirtual 58, 3) := by decide +kernel
theorem dX2_findSets_159 : decode cX2_findSets 159 = .ok (.aload_n 0, 1) := by decide +kernel
theorem dX2_findSets_160 : decode cX2_findSets 160 = .ok (.aload_n 0, 1) := by decide +kernel
theorem dX2_findSets_161 : decode cX2_findSets 161 = .ok (.iload_n 2, 1) := by decide +kernel
theorem dX2_findSets_162 : decode cX2_findSets 162 = .ok (.iconst 1, 1) := by decide +kernel
theorem dX2_findSets_163 : decode cX2_findSets 163 = .ok (.iadd, 1) := by decide +kernel
theorem dX2_findSets_164 : decode cX2_findSets 164 = .ok (.invokevirtual 87, 3) := by decide +kernel
theorem dX2_findSets_167 : decode cX2_findSets 167 = .ok (.invokevirtual 58, 3) := by decide +kernel
theorem dX2_findSets_170 : decode cX2_findSets 170 = .ok (.invokevirtual 92, 3) := by decide +kernel
theorem dX2_findSets_173 : decode cX2_findSets 173 = .ok (.iastore, 1) := by decide +kernel
theorem dX2_findSets_174 : decode cX2_findSets 174 = .ok (.goto 162, 3) := by decide +kernel
theorem dX2_findSets_177 : decode cX2_findSets 177 = .ok (.aload_n 0, 1) := by decide +kernel
theorem dX2_findSets_178 : decode cX2_findSets 178 = .ok (.getfield 26, 3) := by decide +kernel
theorem dX2_findSets_181 : decode cX2_findSets 181 = .ok (.iload_n 1, 1) := by decide +kernel
theorem dX2_findSets_182 : decode cX2_findSets 182 = .ok (.aload_n 0, 1) := by decide +kernel
theorem dX2_findSets_183 : decode cX2_findSets 183 = .ok (.getfield 41, 3) := by decide +kernel
theorem dX2_findSets_186 : decode cX2_findSets 186 = .ok (.getfield 96, 3) := by decide +kernel
theorem dX2_findSets_189 : decode cX2_findSets 189 = .ok (.aload_n 0, 1) := by decide +kernel
theorem dX2_findSets_190 : decode cX2_findSets 190 = .ok (.getfield 41, 3) := by decide +kernel
theorem dX2_findSets_193 : decode cX2_findSets 193 = .ok (.aload_n 0, 1) := by decide +kernel
theorem dX2_findSets_194 : decode cX2_findSets 194 = .ok (.iload_n 2, 1) := by decide +kernel
theorem dX2_findSets_195 : decode cX2_findSets 195 = .ok (.invokevirtual 75, 3) := by decide +kernel
theorem dX2_findSets_198 : decode cX2_findSets 198 = .ok (.aload_n 0, 1) := by decide +kernel
theorem dX2_findSets_199 : decode cX2_findSets 199 = .ok (.iload_n 2, 1) := by decide +kernel
theorem dX2_findSets_200 : decode cX2_findSets 200 = .ok (.iconst 1, 1) := by decide +kernel
theorem dX2_findSets_201 : decode cX2_findSets 201 = .ok (.iadd, 1) := by decide +kernel
theorem dX2_findSets_202 : decode cX2_findSets 202 = .ok (.invokevirtual 58, 3) := by decide +kernel
theorem dX2_findSets_205 : decode cX2_findSets 205 = .ok (.aload_n 0, 1) := by decide +kernel
theorem dX2_findSets_206 : decode cX2_findSets 206 = .ok (.aload_n 0, 1) := by decide +kernel
theorem dX2_findSets_207 : decode cX2_findSets 207 = .ok (.iload_n 2, 1) := by decide +kernel
theorem dX2_findSets_208 : decode cX2_findSets 208 = .ok (.iconst 1, 1) := by decide +kernel
theorem dX2_findSets_209 : decode cX2_findSets 209 = .ok (.iadd, 1) := by decide +kernel
theorem dX2_findSets_210 : decode cX2_findSets 210 = .ok (.invokevirtual 87, 3) := by decide +kernel
theorem dX2_findSets_213 : decode cX2_findSets 213 = .ok (.invokevirtual 58, 3) := by decide +kernel
theorem dX2_findSets_216 : decode cX2_findSets 216 = .ok (.invokevirtual 99, 3) := by decide +kernel
theorem dX2_findSets_219 : decode cX2_findSets 219 = .ok (.iconst (-1), 1) := by decide +kernel
theorem dX2_findSets_220 : decode cX2_findSets 220 = .ok (.ixor, 1) := by decide +kernel
theorem dX2_findSets_221 : decode cX2_findSets 221 = .ok (.iand, 1) := by decide +kernel
theorem dX2_findSets_222 : decode cX2_findSets 222 = .ok (.iastore, 1) := by decide +kernel
theorem dX2_findSets_223 : decode cX2_findSets 223 = .ok (.goto 113, 3) := by decide +kernel
theorem dX2_findSets_226 : decode cX2_findSets 226 = .ok (.aload_n 0, 1) := by decide +kernel
theorem dX2_findSets_227 : decode cX2_findSets 227 = .ok (.getfield 26, 3) := by decide +kernel
theorem dX2_findSets_230 : decode cX2_findSets 230 = .ok (.iload_n 1, 1) := by decide +kernel
theorem dX2_findSets_231 : decode cX2_findSets 231 = .ok (.aload_n 0, 1) := by decide +kernel
theorem dX2_findSets_232 : decode cX2_findSets 232 = .ok (.getfield 41, 3) := by decide +kernel
theorem dX2_findSets_235 : decode cX2_findSets 235 = .ok (.getfield 96, 3) := by decide +kernel
theorem dX2_findSets_238 : decode cX2_findSets 238 = .ok (.aload_n 0, 1) := by decide +kernel
theorem dX2_findSets_239 : decode cX2_findSets 239 = .ok (.iload_n 2, 1) := by decide +kernel
theorem dX2_findSets_240 : decode cX2_findSets 240 = .ok (.invokevirtual 58, 3) := by decide +kernel
theorem dX2_findSets_243 : decode cX2_findSets 243 = .ok (.iconst (-1), 1) := by decide +kernel
theorem dX2_findSets_244 : decode cX2_findSets 244 = .ok (.ixor, 1) := by decide +kernel
theorem dX2_findSets_245 : decode cX2_findSets 245 = .ok (.iand, 1) := by decide +kernel
theorem dX2_findSets_246 : decode cX2_findSets 246 = .ok (.iastore, 1) := by decide +kernel
theorem dX2_findSets_247 : decode cX2_findSets 247 = .ok (.goto 89, 3) := by decide +kernel
theorem dX2_findSets_250 : decode cX2_findSets 250 = .ok (.aload_n 0, 1) := by decide +kernel
theorem dX2_findSets_251 : decode cX2_findSets 251 = .ok (.getfield 26, 3) := by decide +kernel
theorem dX2_findSets_254 : decode cX2_findSets 254 = .ok (.iload_n 1, 1) := by decide +kernel
theorem dX2_findSets_255 : decode cX2_findSets 255 = .ok (.aload_n 0, 1) := by decide +kernel
theorem dX2_findSets_256 : decode cX2_findSets 256 = .ok (.iload_n 2, 1) := by decide +kernel
theorem dX2_findSets_257 : decode cX2_findSets 257 = .ok (.invokevirtual 58, 3) := by decide +kernel
theorem dX2_findSets_260 : decode cX2_findSets 260 = .ok (.aload_n 0, 1) := by decide +kernel
theorem dX2_findSets_261 : decode cX2_findSets 261 = .ok (.aload_n 0, 1) := by decide +kernel
theorem dX2_findSets_262 : decode cX2_findSets 262 = .ok (.iload_n 2, 1) := by decide +kernel
theorem dX2_findSets_263 : decode cX2_findSets 263 = .ok (.invokevirtual 87, 3) := by decide +kernel
theorem dX2_findSets_266 : decode cX2_findSets 266 = .ok (.invokevirtual 58, 3) := by decide +kernel
theorem dX2_findSets_269 : decode cX2_findSets 269 = .ok (.iand, 1) := by decide +kernel
theorem dX2_findSets_270 : decode cX2_findSets 270 = .ok (.iastore, 1) := by decide +kernel
theorem dX2_findSets_271 : decode cX2_findSets 271 = .ok (.goto 65, 3) := by decide +kernel
theorem dX2_findSets_274 : decode cX2_findSets 274 = .ok (.aload_n 0, 1) := by decide +kernel
theorem dX2_findSets_275 : decode cX2_findSets 275 = .ok (.getfield 26, 3) := by decide +kernel
theorem dX2_findSets_278 : decode cX2_findSets 278 = .ok (.iload_n 1, 1) := by decide +kernel
theorem dX2_findSets_279 : decode cX2_findSets 279 = .ok (.aload_n 0, 1) := by decide +kernel
theorem dX2_findSets_280 : decode cX2_findSets 280 = .ok (.iload_n 2, 1) := by decide +kernel
theorem dX2_findSets_281 : decode cX2_findSets 281 = .ok (.invokevirtual 58, 3) := by decide +kernel
theorem dX2_findSets_284 : decode cX2_findSets 284 = .ok (.aload_n 0, 1) := by decide +kernel
theorem dX2_findSets_285 : decode cX2_findSets 285 = .ok (.aload_n 0, 1) := by decide +kernel
theorem dX2_findSets_286 : decode cX2_findSets 286 = .ok (.iload_n 2, 1) := by decide +kernel
theorem dX2_findSets_287 : decode cX2_findSets 287 = .ok (.invokevirtual 87, 3) := by decide +kernel
theorem dX2_findSets_290 : decode cX2_findSets 290 = .ok (.invokevirtual 58, 3) := by decide +kernel
theorem dX2_findSets_293 : decode cX2_findSets 293 = .ok (.ior, 1) := by decide +kernel
theorem dX2_findSets_294 : decode cX2_findSets 294 = .ok (.iastore, 1) := by decide +kernel
theorem dX2_findSets_295 : decode cX2_findSets 295 = .ok (.goto 41, 3) := by decide +kernel
theorem dX2_findSets_298 : decode cX2_findSets 298 = .ok (.aload_n 0, 1) := by decide +kernel
theorem dX2_findSets_299 : decode cX2_findSets 299 = .ok (.getfield 26, 3) := by decide +kernel
theorem dX2_findSets_302 : decode cX2_findSets 302 = .ok (.iload_n 1, 1) := by decide +kernel
theorem dX2_findSets_303 : decode cX2_findSets 303 = .ok (.aload_n 0, 1) := by decide +kernel
theorem dX2_findSets_304 : decode cX2_findSets 304 = .ok (.getfield 41, 3) := by decide +kernel
theorem dX2_findSets_307 : decode cX2_findSets 307 = .ok (.getfield 96, 3) := by decide +kernel
theorem dX2_findSets_310 : decode cX2_findSets 310 = .ok (.iastore, 1) := by decide +kernel
theorem dX2_findSets_311 : decode cX2_findSets 311 = .ok (.goto 25, 3) := by decide +kernel
theorem dX2_findSets_314 : decode cX2_findSets 314 = .ok (.aload_n 0, 1) := by decide +kernel
theorem dX2_findSets_315 : decode cX2_findSets 315 = .ok (.getfield 26, 3) := by decide +kernel
theorem dX2_findSets_318 : decode cX2_findSets 318 = .ok (.iload_n 1, 1) := by decide +kernel
theorem dX2_findSets_319 : decode cX2_findSets 319 = .ok (.aload_n 0, 1) := by decide +kernel
theorem dX2_findSets_320 : decode cX2_findSets 320 = .ok (.getfield 32, 3) := by decide +kernel
theorem dX2_findSets_323 : decode cX2_findSets 323 = .ok (.aload_n 0, 1) := by decide +kernel
theorem dX2_findSets_324 : decode cX2_findSets 324 = .ok (.getfield 15, 3) := by decide +kernel
theorem dX2_findSets_327 : decode cX2_findSets 327 = .ok (.iload_n 1, 1) := by decide +kernel
theorem dX2_findSets_328 : decode cX2_findSets 328 = .ok (.caload, 1) := by decide +kernel
theorem dX2_findSets_329 : decode cX2_findSets 329 = .ok (.bipush 97, 2) := by decide +kernel
theorem dX2_findSets_331 : decode cX2_findSets 331 = .ok (.isub, 1) := by decide +kernel
theorem dX2_findSets_332 : decode cX2_findSets 332 = .ok (.invokevirtual 102, 3) := by decide +kernel
theorem dX2_findSets_335 : decode cX2_findSets 335 = .ok (.iastore, 1) := by decide +kernel
theorem dX2_findSets_336 : decode cX2_findSets 336 = .ok (.aload_n 0, 1) := by decide +kernel
theorem dX2_findSets_337 : decode cX2_findSets 337 = .ok (.getfield 29, 3) := by decide +kernel
theorem dX2_findSets_340 : decode cX2_findSets 340 = .ok (.iload_n 1, 1) := by decide +kernel
theorem dX2_findSets_341 : decode cX2_findSets 341 = .ok (.aload_n 0, 1) := by decide +kernel
theorem dX2_findSets_342 : decode cX2_findSets 342 = .ok (.getfield 26, 3) := by decide +kernel
theorem dX2_findSets_345 : decode cX2_findSets 345 = .ok (.iload_n 1, 1) := by decide +kernel
theorem dX2_findSets_346 : decode cX2_findSets 346 = .ok (.iaload, 1) := by decide +kernel
theorem dX2_findSets_347 : decode cX2_findSets 347 = .ok (.iconst (-1), 1) := by decide +kernel
theorem dX2_findSets_348 : decode cX2_findSets 348 = .ok (.if_icmp .ne 7, 3) := by decide +kernel
theorem dX2_findSets_351 : decode cX2_findSets 351 = .ok (.iconst (-1), 1) := by decide +kernel
theorem dX2_findSets_352 : decode cX2_findSets 352 = .ok (.goto 10, 3) := by decide +kernel
theorem dX2_findSets_355 : decode cX2_findSets 355 = .ok (.aload_n 0, 1) := by decide +kernel
theorem dX2_findSets_356 : decode cX2_findSets 356 = .ok (.getfield 41, 3) := by decide +kernel
theorem dX2_findSets_359 : decode cX2_findSets 359 = .ok (.getfield 90, 3) := by decide +kernel
theorem dX2_findSets_362 : decode cX2_findSets 362 = .ok (.iastore, 1) := by decide +kernel
theorem dX2_findSets_363 : decode cX2_findSets 363 = .ok (.iinc 1 (-1), 3) := by decide +kernel
theorem dX2_findSets_366 : decode cX2_findSets 366 = .ok (.goto (-352), 3) := by decide +kernel
theorem dX2_findSets_369 : decode cX2_findSets 369 = .ok (.return_, 1) := by decide +kernel
theorem dX2_ofWish_0 : decode cX2_ofWish 0 = .ok (.aload_n 0, 1) := by decide +kernel
theorem dX2_ofWish_1 : decode cX2_ofWish 1 = .ok (.getfield 9, 3) := by decide +kernel
theorem dX2_ofWish_4 : decode cX2_ofWish 4 = .ok (.ifCond .ne 5, 3) := by decide +kernel
theorem dX2_ofWish_7 : decode cX2_ofWish 7 = .ok (.iconst (-1), 1) := by decide +kernel
theorem dX2_ofWish_8 : decode cX2_ofWish 8 = .ok (.ireturn, 1) := by decide +kernel
theorem dX2_ofWish_9 : decode cX2_ofWish 9 = .ok (.iload_n 1, 1) := by decide +kernel
theorem dX2_ofWish_10 : decode cX2_ofWish 10 = .ok (.tableswitch 42 0 2 #[26, 31, 37], 26) := by decide +kernel
theorem dX2_ofWish_36 : decode cX2_ofWish 36 = .ok (.aload_n 0, 1) := by decide +kernel
theorem dX2_ofWish_37 : decode cX2_ofWish 37 = .ok (.getfield 9, 3) := by decide +kernel
theorem dX2_ofWish_40 : decode cX2_ofWish 40 = .ok (.ireturn, 1) := by decide +kernel
theorem dX2_ofWish_41 : decode cX2_ofWish 41 = .ok (.aload_n 0, 1) := by decide +kernel
theorem dX2_ofWish_42 : decode cX2_ofWish 42 = .ok (.iconst 0, 1) := by decide +kernel
theorem dX2_ofWish_43 : decode cX2_ofWish 43 = .ok (.invokevirtual 58, 3) := by decide +kernel
theorem dX2_ofWish_46 : decode cX2_ofWish 46 = .ok (.ireturn, 1) := by decide +kernel
theorem dX2_ofWish_47 : decode cX2_ofWish 47 = .ok (.aload_n 0, 1) := by decide +kernel
theorem dX2_ofWish_48 : decode cX2_ofWish 48 = .ok (.invokevirtual 105, 3) := by decide +kernel
theorem dX2_ofWish_51 : decode cX2_ofWish 51 = .ok (.ireturn, 1) := by decide +kernel
theorem dX2_ofWish_52 : decode cX2_ofWish 52 = .ok (.aload_n 0, 1) := by decide +kernel
theorem dX2_ofWish_53 : decode cX2_ofWish 53 = .ok (.iconst 0, 1) := by decide +kernel
theorem dX2_ofWish_54 : decode cX2_ofWish 54 = .ok (.invokevirtual 78, 3) := by decide +kernel
theorem dX2_ofWish_57 : decode cX2_ofWish 57 = .ok (.ireturn, 1) := by decide +kernel
theorem dX2_ofSign_0 : decode cX2_ofSign 0 = .ok (.iload_n 1, 1) := by decide +kernel
theorem dX2_ofSign_1 : decode cX2_ofSign 1 = .ok (.ifCond .lt 11, 3) := by decide +kernel
theorem dX2_ofSign_4 : decode cX2_ofSign 4 = .ok (.iload_n 1, 1) := by decide +kernel
theorem dX2_ofSign_5 : decode cX2_ofSign 5 = .ok (.aload_n 0, 1) := by decide +kernel
theorem dX2_ofSign_6 : decode cX2_ofSign 6 = .ok (.getfield 9, 3) := by decide +kernel
theorem dX2_ofSign_9 : decode cX2_ofSign 9 = .ok (.if_icmp .lt 5, 3) := by decide +kernel
theorem dX2_ofSign_12 : decode cX2_ofSign 12 = .ok (.iconst (-1), 1) := by decide +kernel
theorem dX2_ofSign_13 : decode cX2_ofSign 13 = .ok (.ireturn, 1) := by decide +kernel
theorem dX2_ofSign_14 : decode cX2_ofSign 14 = .ok (.iload_n 2, 1) := by decide +kernel
theorem dX2_ofSign_15 : decode cX2_ofSign 15 = .ok (.tableswitch 46 0 2 #[25, 32, 39], 25) := by decide +kernel
theorem dX2_ofSign_40 : decode cX2_ofSign 40 = .ok (.aload_n 0, 1) := by decide +kernel
theorem dX2_ofSign_41 : decode cX2_ofSign 41 = .ok (.getfield 15, 3) := by decide +kernel
theorem dX2_ofSign_44 : decode cX2_ofSign 44 = .ok (.iload_n 1, 1) := by decide +kernel
theorem dX2_ofSign_45 : decode cX2_ofSign 45 = .ok (.caload, 1) := by decide +kernel
theorem dX2_ofSign_46 : decode cX2_ofSign 46 = .ok (.ireturn, 1) := by decide +kernel
theorem dX2_ofSign_47 : decode cX2_ofSign 47 = .ok (.aload_n 0, 1) := by decide +kernel
theorem dX2_ofSign_48 : decode cX2_ofSign 48 = .ok (.getfield 26, 3) := by decide +kernel
theorem dX2_ofSign_51 : decode cX2_ofSign 51 = .ok (.iload_n 1, 1) := by decide +kernel
theorem dX2_ofSign_52 : decode cX2_ofSign 52 = .ok (.iaload, 1) := by decide +kernel
theorem dX2_ofSign_53 : decode cX2_ofSign 53 = .ok (.ireturn, 1) := by decide +kernel
theorem dX2_ofSign_54 : decode cX2_ofSign 54 = .ok (.aload_n 0, 1) := by decide +kernel
theorem dX2_ofSign_55 : decode cX2_ofSign 55 = .ok (.getfield 29, 3) := by decide +kernel
theorem dX2_ofSign_58 : decode cX2_ofSign 58 = .ok (.iload_n 1, 1) := by decide +kernel
theorem dX2_ofSign_59 : decode cX2_ofSign 59 = .ok (.iaload, 1) := by decide +kernel
theorem dX2_ofSign_60 : decode cX2_ofSign 60 = .ok (.ireturn, 1) := by decide +kernel
theorem dX2_ofSign_61 : decode cX2_ofSign 61 = .ok (.aload_n 0, 1) := by decide +kernel
theorem dX2_ofSign_62 : decode cX2_ofSign 62 = .ok (.getfield 19, 3) := by decide +kernel
theorem dX2_ofSign_65 : decode cX2_ofSign 65 = .ok (.iload_n 1, 1) := by decide +kernel
theorem dX2_ofSign_66 : decode cX2_ofSign 66 = .ok (.iaload, 1) := by decide +kernel
theorem dX2_ofSign_67 : decode cX2_ofSign 67 = .ok (.ireturn, 1) := by decide +kernel
theorem dX2_signAt_0 : decode cX2_signAt 0 = .ok (.iload_n 1, 1) := by decide +kernel
theorem dX2_signAt_1 : decode cX2_signAt 1 = .ok (.ifCond .lt 20, 3) := by decide +kernel
theorem dX2_signAt_4 : decode cX2_signAt 4 = .ok (.iload_n 1, 1) := by decide +kernel
theorem dX2_signAt_5 : decode cX2_signAt 5 = .ok (.aload_n 0, 1) := by decide +kernel
theorem dX2_signAt_6 : decode cX2_signAt 6 = .ok (.getfield 9, 3) := by decide +kernel
theorem dX2_signAt_9 : decode cX2_signAt 9 = .ok (.if_icmp .ge 12, 3) := by decide +kernel
theorem dX2_signAt_12 : decode cX2_signAt 12 = .ok (.aload_n 0, 1) := by decide +kernel
theorem dX2_signAt_13 : decode cX2_signAt 13 = .ok (.getfield 15, 3) := by decide +kernel
theorem dX2_signAt_16 : decode cX2_signAt 16 = .ok (.iload_n 1, 1) := by decide +kernel
theorem dX2_signAt_17 : decode cX2_signAt 17 = .ok (.caload, 1) := by decide +kernel
theorem dX2_signAt_18 : decode cX2_signAt 18 = .ok (.goto 4, 3) := by decide +kernel
theorem dX2_signAt_21 : decode cX2_signAt 21 = .ok (.iconst 0, 1) := by decide +kernel
theorem dX2_signAt_22 : decode cX2_signAt 22 = .ok (.ireturn, 1) := by decide +kernel
theorem dX2_setAt_0 : decode cX2_setAt 0 = .ok (.iload_n 1, 1) := by decide +kernel
theorem dX2_setAt_1 : decode cX2_setAt 1 = .ok (.ifCond .lt 20, 3) := by decide +kernel
theorem dX2_setAt_4 : decode cX2_setAt 4 = .ok (.iload_n 1, 1) := by decide +kernel
theorem dX2_setAt_5 : decode cX2_setAt 5 = .ok (.aload_n 0, 1) := by decide +kernel
theorem dX2_setAt_6 : decode cX2_setAt 6 = .ok (.getfield 9, 3) := by decide +kernel
theorem dX2_setAt_9 : decode cX2_setAt 9 = .ok (.if_icmp .ge 12, 3) := by decide +kernel
theorem dX2_setAt_12 : decode cX2_setAt 12 = .ok (.aload_n 0, 1) := by decide +kernel
theorem dX2_setAt_13 : decode cX2_setAt 13 = .ok (.getfield 26, 3) := by decide +kernel
theorem dX2_setAt_16 : decode cX2_setAt 16 = .ok (.iload_n 1, 1) := by decide +kernel
theorem dX2_setAt_17 : decode cX2_setAt 17 = .ok (.iaload, 1) := by decide +kernel
theorem dX2_setAt_18 : decode cX2_setAt 18 = .ok (.goto 4, 3) := by decide +kernel
theorem dX2_setAt_21 : decode cX2_setAt 21 = .ok (.iconst 0, 1) := by decide +kernel
theorem dX2_setAt_22 : decode cX2_setAt 22 = .ok (.ireturn, 1) := by decide +kernel
theorem dX2_behind_0 : decode cX2_behind 0 = .ok (.iload_n 1, 1) := by decide +kernel
theorem dX2_behind_1 : decode cX2_behind 1 = .ok (.ifCond .lt 22, 3) := by decide +kernel
theorem dX2_behind_4 : decode cX2_behind 4 = .ok (.iload_n 1, 1) := by decide +kernel
theorem dX2_behind_5 : decode cX2_behind 5 = .ok (.aload_n 0, 1) := by decide +kernel
theorem dX2_behind_6 : decode cX2_behind 6 = .ok (.getfield 9, 3) := by decide +kernel
theorem dX2_behind_9 : decode cX2_behind 9 = .ok (.if_icmp .ge 14, 3) := by decide +kernel
theorem dX2_behind_12 : decode cX2_behind 12 = .ok (.iload_n 1, 1) := by decide +kernel
theorem dX2_behind_13 : decode cX2_behind 13 = .ok (.aload_n 0, 1) := by decide +kernel
theorem dX2_behind_14 : decode cX2_behind 14 = .ok (.getfield 19, 3) := by decide +kernel
theorem dX2_behind_17 : decode cX2_behind 17 = .ok (.iload_n 1, 1) := by decide +kernel
theorem dX2_behind_18 : decode cX2_behind 18 = .ok (.iaload, 1) := by decide +kernel
theorem dX2_behind_19 : decode cX2_behind 19 = .ok (.iadd, 1) := by decide +kernel
theorem dX2_behind_20 : decode cX2_behind 20 = .ok (.goto 7, 3) := by decide +kernel
theorem dX2_behind_23 : decode cX2_behind 23 = .ok (.aload_n 0, 1) := by decide +kernel
theorem dX2_behind_24 : decode cX2_behind 24 = .ok (.getfield 9, 3) := by decide +kernel
theorem dX2_behind_27 : decode cX2_behind 27 = .ok (.ireturn, 1) := by decide +kernel
theorem dX2_depthAt_0 : decode cX2_depthAt 0 = .ok (.iload_n 1, 1) := by decide +kernel
theorem dX2_depthAt_1 : decode cX2_depthAt 1 = .ok (.ifCond .lt 20, 3) := by decide +kernel
theorem dX2_depthAt_4 : decode cX2_depthAt 4 = .ok (.iload_n 1, 1) := by decide +kernel
theorem dX2_depthAt_5 : decode cX2_depthAt 5 = .ok (.aload_n 0, 1) := by decide +kernel
theorem dX2_depthAt_6 : decode cX2_depthAt 6 = .ok (.getfield 9, 3) := by decide +kernel
theorem dX2_depthAt_9 : decode cX2_depthAt 9 = .ok (.if_icmp .ge 12, 3) := by decide +kernel
theorem dX2_depthAt_12 : decode cX2_depthAt 12 = .ok (.aload_n 0, 1) := by decide +kernel
theorem dX2_depthAt_13 : decode cX2_depthAt 13 = .ok (.getfield 23, 3) := by decide +kernel
theorem dX2_depthAt_16 : decode cX2_depthAt 16 = .ok (.iload_n 1, 1) := by decide +kernel
theorem dX2_depthAt_17 : decode cX2_depthAt 17 = .ok (.iaload, 1) := by decide +kernel
theorem dX2_depthAt_18 : decode cX2_depthAt 18 = .ok (.goto 4, 3) := by decide +kernel
theorem dX2_depthAt_21 : decode cX2_depthAt 21 = .ok (.iconst 0, 1) := by decide +kernel
theorem dX2_depthAt_22 : decode cX2_depthAt 22 = .ok (.ireturn, 1) := by decide +kernel
theorem dX2_allRounds_0 : decode cX2_allRounds 0 = .ok (.iconst 0, 1) := by decide +kernel
theorem dX2_allRounds_1 : decode cX2_allRounds 1 = .ok (.istore_n 1, 1) := by decide +kernel
theorem dX2_allRounds_2 : decode cX2_allRounds 2 = .ok (.iconst 0, 1) := by decide +kernel
theorem dX2_allRounds_3 : decode cX2_allRounds 3 = .ok (.istore_n 2, 1) := by decide +kernel
theorem dX2_allRounds_4 : decode cX2_allRounds 4 = .ok (.iload_n 2, 1) := by decide +kernel
theorem dX2_allRounds_5 : decode cX2_allRounds 5 = .ok (.aload_n 0, 1) := by decide +kernel
theorem dX2_allRounds_6 : decode cX2_allRounds 6 = .ok (.getfield 9, 3) := by decide +kernel
theorem dX2_allRounds_9 : decode cX2_allRounds 9 = .ok (.if_icmp .ge 22, 3) := by decide +kernel
theorem dX2_allRounds_12 : decode cX2_allRounds 12 = .ok (.iload_n 1, 1) := by decide +kernel
theorem dX2_allRounds_13 : decode cX2_allRounds 13 = .ok (.iconst 0, 1) := by decide +kernel
theorem dX2_allRounds_14 : decode cX2_allRounds 14 = .ok (.aload_n 0, 1) := by decide +kernel
theorem dX2_allRounds_15 : decode cX2_allRounds 15 = .ok (.getfield 29, 3) := by decide +kernel
theorem dX2_allRounds_18 : decode cX2_allRounds 18 = .ok (.iload_n 2, 1) := by decide +kernel
theorem dX2_allRounds_19 : decode cX2_allRounds 19 = .ok (.iaload, 1) := by decide +kernel
theorem dX2_allRounds_20 : decode cX2_allRounds 20 = .ok (.invokestatic 81, 3) := by decide +kernel
theorem dX2_allRounds_23 : decode cX2_allRounds 23 = .ok (.iadd, 1) := by decide +kernel
theorem dX2_allRounds_24 : decode cX2_allRounds 24 = .ok (.istore_n 1, 1) := by decide +kernel
theorem dX2_allRounds_25 : decode cX2_allRounds 25 = .ok (.iinc 2 1, 3) := by decide +kernel
theorem dX2_allRounds_28 : decode cX2_allRounds 28 = .ok (.goto (-24), 3) := by decide +kernel
theorem dX2_allRounds_31 : decode cX2_allRounds 31 = .ok (.iload_n 1, 1) := by decide +kernel
theorem dX2_allRounds_32 : decode cX2_allRounds 32 = .ok (.ireturn, 1) := by decide +kernel
theorem dX3_init_0 : decode cX3_init 0 = .ok (.aload_n 0, 1) := by decide +kernel
theorem dX3_init_1 : decode cX3_init 1 = .ok (.invokespecial 3, 3) := by decide +kernel
theorem dX3_init_4 : decode cX3_init 4 = .ok (.aload_n 0, 1) := by decide +kernel
theorem dX3_init_5 : decode cX3_init 5 = .ok (.iconst 0, 1) := by decide +kernel
theorem dX3_init_6 : decode cX3_init 6 = .ok (.putfield 9, 3) := by decide +kernel
theorem dX3_init_9 : decode cX3_init 9 = .ok (.aload_n 0, 1) := by decide +kernel
theorem dX3_init_10 : decode cX3_init 10 = .ok (.iconst (-1), 1) := by decide +kernel
theorem dX3_init_11 : decode cX3_init 11 = .ok (.putfield 15, 3) := by decide +kernel
theorem dX3_init_14 : decode cX3_init 14 = .ok (.aload_n 0, 1) := by decide +kernel
theorem dX3_init_15 : decode cX3_init 15 = .ok (.bipush 10, 2) := by decide +kernel
theorem dX3_init_17 : decode cX3_init 17 = .ok (.newarray .int, 2) := by decide +kernel
theorem dX3_init_19 : decode cX3_init 19 = .ok (.putfield 18, 3) := by decide +kernel
theorem dX3_init_22 : decode cX3_init 22 = .ok (.aload_n 0, 1) := by decide +kernel
theorem dX3_init_23 : decode cX3_init 23 = .ok (.bipush 10, 2) := by decide +kernel
theorem dX3_init_25 : decode cX3_init 25 = .ok (.newarray .int, 2) := by decide +kernel
theorem dX3_init_27 : decode cX3_init 27 = .ok (.putfield 22, 3) := by decide +kernel
theorem dX3_init_30 : decode cX3_init 30 = .ok (.aload_n 0, 1) := by decide +kernel
theorem dX3_init_31 : decode cX3_init 31 = .ok (.iconst 4, 1) := by decide +kernel
theorem dX3_init_32 : decode cX3_init 32 = .ok (.newarray .int, 2) := by decide +kernel
theorem dX3_init_34 : decode cX3_init 34 = .ok (.putfield 25, 3) := by decide +kernel
theorem dX3_init_37 : decode cX3_init 37 = .ok (.aload_n 0, 1) := by decide +kernel
theorem dX3_init_38 : decode cX3_init 38 = .ok (.sipush 160, 3) := by decide +kernel
theorem dX3_init_41 : decode cX3_init 41 = .ok (.newarray .char, 2) := by decide +kernel
theorem dX3_init_43 : decode cX3_init 43 = .ok (.putfield 28, 3) := by decide +kernel
theorem dX3_init_46 : decode cX3_init 46 = .ok (.return_, 1) := by decide +kernel
theorem dX3_copyFrom_0 : decode cX3_copyFrom 0 = .ok (.aload_n 0, 1) := by decide +kernel
theorem dX3_copyFrom_1 : decode cX3_copyFrom 1 = .ok (.aload_n 1, 1) := by decide +kernel
theorem dX3_copyFrom_2 : decode cX3_copyFrom 2 = .ok (.getfield 9, 3) := by decide +kernel
theorem dX3_copyFrom_5 : decode cX3_copyFrom 5 = .ok (.putfield 9, 3) := by decide +kernel
theorem dX3_copyFrom_8 : decode cX3_copyFrom 8 = .ok (.aload_n 0, 1) := by decide +kernel
theorem dX3_copyFrom_9 : decode cX3_copyFrom 9 = .ok (.aload_n 1, 1) := by decide +kernel
theorem dX3_copyFrom_10 : decode cX3_copyFrom 10 = .ok (.getfield 15, 3) := by decide +kernel
theorem dX3_copyFrom_13 : decode cX3_copyFrom 13 = .ok (.putfield 15, 3) := by decide +kernel
theorem dX3_copyFrom_16 : decode cX3_copyFrom 16 = .ok (.aload_n 1, 1) := by decide +kernel
theorem dX3_copyFrom_17 : decode cX3_copyFrom 17 = .ok (.getfield 18, 3) := by decide +kernel
theorem dX3_copyFrom_20 : decode cX3_copyFrom 20 = .ok (.iconst 0, 1) := by decide +kernel
theorem dX3_copyFrom_21 : decode cX3_copyFrom 21 = .ok (.aload_n 0, 1) := by decide +kernel
theorem dX3_copyFrom_22 : decode cX3_copyFrom 22 = .ok (.getfield 18, 3) := by decide +kernel
theorem dX3_copyFrom_25 : decode cX3_copyFrom 25 = .ok (.iconst 0, 1) := by decide +kernel
theorem dX3_copyFrom_26 : decode cX3_copyFrom 26 = .ok (.bipush 10, 2) := by decide +kernel
theorem dX3_copyFrom_28 : decode cX3_copyFrom 28 = .ok (.invokestatic 32, 3) := by decide +kernel
theorem dX3_copyFrom_31 : decode cX3_copyFrom 31 = .ok (.aload_n 1, 1) := by decide +kernel
theorem dX3_copyFrom_32 : decode cX3_copyFrom 32 = .ok (.getfield 22, 3) := by decide +kernel
theorem dX3_copyFrom_35 : decode cX3_copyFrom 35 = .ok (.iconst 0, 1) := by decide +kernel
theorem dX3_copyFrom_36 : decode cX3_copyFrom 36 = .ok (.aload_n 0, 1) := by decide +kernel
theorem dX3_copyFrom_37 : decode cX3_copyFrom 37 = .ok (.getfield 22, 3) := by decide +kernel
theorem dX3_copyFrom_40 : decode cX3_copyFrom 40 = .ok (.iconst 0, 1) := by decide +kernel
theorem dX3_copyFrom_41 : decode cX3_copyFrom 41 = .ok (.bipush 10, 2) := by decide +kernel
theorem dX3_copyFrom_43 : decode cX3_copyFrom 43 = .ok (.invokestatic 32, 3) := by decide +kernel
theorem dX3_copyFrom_46 : decode cX3_copyFrom 46 = .ok (.aload_n 1, 1) := by decide +kernel
theorem dX3_copyFrom_47 : decode cX3_copyFrom 47 = .ok (.getfield 25, 3) := by decide +kernel
theorem dX3_copyFrom_50 : decode cX3_copyFrom 50 = .ok (.iconst 0, 1) := by decide +kernel
theorem dX3_copyFrom_51 : decode cX3_copyFrom 51 = .ok (.aload_n 0, 1) := by decide +kernel
theorem dX3_copyFrom_52 : decode cX3_copyFrom 52 = .ok (.getfield 25, 3) := by decide +kernel
theorem dX3_copyFrom_55 : decode cX3_copyFrom 55 = .ok (.iconst 0, 1) := by decide +kernel
theorem dX3_copyFrom_56 : decode cX3_copyFrom 56 = .ok (.iconst 4, 1) := by decide +kernel
theorem dX3_copyFrom_57 : decode cX3_copyFrom 57 = .ok (.invokestatic 32, 3) := by decide +kernel
theorem dX3_copyFrom_60 : decode cX3_copyFrom 60 = .ok (.aload_n 1, 1) := by decide +kernel
theorem dX3_copyFrom_61 : decode cX3_copyFrom 61 = .ok (.getfield 28, 3) := by decide +kernel
theorem dX3_copyFrom_64 : decode cX3_copyFrom 64 = .ok (.iconst 0, 1) := by decide +kernel
theorem dX3_copyFrom_65 : decode cX3_copyFrom 65 = .ok (.aload_n 0, 1) := by decide +kernel
theorem dX3_copyFrom_66 : decode cX3_copyFrom 66 = .ok (.getfield 28, 3) := by decide +kernel
theorem dX3_copyFrom_69 : decode cX3_copyFrom 69 = .ok (.iconst 0, 1) := by decide +kernel
theorem dX3_copyFrom_70 : decode cX3_copyFrom 70 = .ok (.sipush 160, 3) := by decide +kernel
theorem dX3_copyFrom_73 : decode cX3_copyFrom 73 = .ok (.invokestatic 32, 3) := by decide +kernel
theorem dX3_copyFrom_76 : decode cX3_copyFrom 76 = .ok (.return_, 1) := by decide +kernel
theorem dX3_hasWorld_0 : decode cX3_hasWorld 0 = .ok (.iload_n 1, 1) := by decide +kernel
theorem dX3_hasWorld_1 : decode cX3_hasWorld 1 = .ok (.ifCond .lt 15, 3) := by decide +kernel
theorem dX3_hasWorld_4 : decode cX3_hasWorld 4 = .ok (.iload_n 1, 1) := by decide +kernel
theorem dX3_hasWorld_5 : decode cX3_hasWorld 5 = .ok (.aload_n 0, 1) := by decide +kernel
theorem dX3_hasWorld_6 : decode cX3_hasWorld 6 = .ok (.getfield 9, 3) := by decide +kernel
theorem dX3_hasWorld_9 : decode cX3_hasWorld 9 = .ok (.if_icmp .ge 7, 3) := by decide +kernel
theorem dX3_hasWorld_12 : decode cX3_hasWorld 12 = .ok (.iconst 1, 1) := by decide +kernel
theorem dX3_hasWorld_13 : decode cX3_hasWorld 13 = .ok (.goto 4, 3) := by decide +kernel
theorem dX3_hasWorld_16 : decode cX3_hasWorld 16 = .ok (.iconst 0, 1) := by decide +kernel
theorem dX3_hasWorld_17 : decode cX3_hasWorld 17 = .ok (.ireturn, 1) := by decide +kernel
theorem dX3_allWorlds_0 : decode cX3_allWorlds 0 = .ok (.iconst 1, 1) := by decide +kernel
theorem dX3_allWorlds_1 : decode cX3_allWorlds 1 = .ok (.aload_n 0, 1) := by decide +kernel
theorem dX3_allWorlds_2 : decode cX3_allWorlds 2 = .ok (.getfield 9, 3) := by decide +kernel
theorem dX3_allWorlds_5 : decode cX3_allWorlds 5 = .ok (.ishl, 1) := by decide +kernel
theorem dX3_allWorlds_6 : decode cX3_allWorlds 6 = .ok (.iconst 1, 1) := by decide +kernel
theorem dX3_allWorlds_7 : decode cX3_allWorlds 7 = .ok (.isub, 1) := by decide +kernel
theorem dX3_allWorlds_8 : decode cX3_allWorlds 8 = .ok (.ireturn, 1) := by decide +kernel
theorem dX3_lettersOf_0 : decode cX3_lettersOf 0 = .ok (.iload_n 1, 1) := by decide +kernel
theorem dX3_lettersOf_1 : decode cX3_lettersOf 1 = .ok (.ifCond .lt 20, 3) := by decide +kernel
theorem dX3_lettersOf_4 : decode cX3_lettersOf 4 = .ok (.iload_n 1, 1) := by decide +kernel
theorem dX3_lettersOf_5 : decode cX3_lettersOf 5 = .ok (.aload_n 0, 1) := by decide +kernel
theorem dX3_lettersOf_6 : decode cX3_lettersOf 6 = .ok (.getfield 9, 3) := by decide +kernel
theorem dX3_lettersOf_9 : decode cX3_lettersOf 9 = .ok (.if_icmp .ge 12, 3) := by decide +kernel
theorem dX3_lettersOf_12 : decode cX3_lettersOf 12 = .ok (.aload_n 0, 1) := by decide +kernel
theorem dX3_lettersOf_13 : decode cX3_lettersOf 13 = .ok (.getfield 18, 3) := by decide +kernel
theorem dX3_lettersOf_16 : decode cX3_lettersOf 16 = .ok (.iload_n 1, 1) := by decide +kernel
theorem dX3_lettersOf_17 : decode cX3_lettersOf 17 = .ok (.iaload, 1) := by decide +kernel
theorem dX3_lettersOf_18 : decode cX3_lettersOf 18 = .ok (.goto 4, 3) := by decide +kernel
theorem dX3_lettersOf_21 : decode cX3_lettersOf 21 = .ok (.iconst 0, 1) := by decide +kernel
theorem dX3_lettersOf_22 : decode cX3_lettersOf 22 = .ok (.ireturn, 1) := by decide +kernel
theorem dX3_stepsFrom_0 : decode cX3_stepsFrom 0 = .ok (.iload_n 1, 1) := by decide +kernel
theorem dX3_stepsFrom_1 : decode cX3_stepsFrom 1 = .ok (.ifCond .lt 20, 3) := by decide +kernel
theorem dX3_stepsFrom_4 : decode cX3_stepsFrom 4 = .ok (.iload_n 1, 1) := by decide +kernel
theorem dX3_stepsFrom_5 : decode cX3_stepsFrom 5 = .ok (.aload_n 0, 1) := by decide +kernel
theorem dX3_stepsFrom_6 : decode cX3_stepsFrom 6 = .ok (.getfield 9, 3) := by decide +kernel
theorem dX3_stepsFrom_9 : decode cX3_stepsFrom 9 = .ok (.if_icmp .ge 12, 3) := by decide +kernel
theorem dX3_stepsFrom_12 : decode cX3_stepsFrom 12 = .ok (.aload_n 0, 1) := by decide +kernel
theorem dX3_stepsFrom_13 : decode cX3_stepsFrom 13 = .ok (.getfield 22, 3) := by decide +kernel
theorem dX3_stepsFrom_16 : decode cX3_stepsFrom 16 = .ok (.iload_n 1, 1) := by decide +kernel
theorem dX3_stepsFrom_17 : decode cX3_stepsFrom 17 = .ok (.iaload, 1) := by decide +kernel
theorem dX3_stepsFrom_18 : decode cX3_stepsFrom 18 = .ok (.goto 4, 3) := by decide +kernel
theorem dX3_stepsFrom_21 : decode cX3_stepsFrom 21 = .ok (.iconst 0, 1) := by decide +kernel
theorem dX3_stepsFrom_22 : decode cX3_stepsFrom 22 = .ok (.ireturn, 1) := by decide +kernel
theorem dX3_withLetter_0 : decode cX3_withLetter 0 = .ok (.iconst 0, 1) := by decide +kernel
theorem dX3_withLetter_1 : decode cX3_withLetter 1 = .ok (.istore_n 2, 1) := by decide +kernel
theorem dX3_withLetter_2 : decode cX3_withLetter 2 = .ok (.iconst 0, 1) := by decide +kernel
theorem dX3_withLetter_3 : decode cX3_withLetter 3 = .ok (.istore_n 3, 1) := by decide +kernel
theorem dX3_withLetter_4 : decode cX3_withLetter 4 = .ok (.iload_n 3, 1) := by decide +kernel
theorem dX3_withLetter_5 : decode cX3_withLetter 5 = .ok (.aload_n 0, 1) := by decide +kernel
theorem dX3_withLetter_6 : decode cX3_withLetter 6 = .ok (.getfield 9, 3) := by decide +kernel
theorem dX3_withLetter_9 : decode cX3_withLetter 9 = .ok (.if_icmp .ge 24, 3) := by decide +kernel
theorem dX3_withLetter_12 : decode cX3_withLetter 12 = .ok (.iload_n 2, 1) := by decide +kernel
theorem dX3_withLetter_13 : decode cX3_withLetter 13 = .ok (.aload_n 0, 1) := by decide +kernel
theorem dX3_withLetter_14 : decode cX3_withLetter 14 = .ok (.getfield 18, 3) := by decide +kernel
theorem dX3_withLetter_17 : decode cX3_withLetter 17 = .ok (.iload_n 3, 1) := by decide +kernel
theorem dX3_withLetter_18 : decode cX3_withLetter 18 = .ok (.iaload, 1) := by decide +kernel
theorem dX3_withLetter_19 : decode cX3_withLetter 19 = .ok (.iload_n 1, 1) := by decide +kernel
theorem dX3_withLetter_20 : decode cX3_withLetter 20 = .ok (.ishr, 1) := by decide +kernel
theorem dX3_withLetter_21 : decode cX3_withLetter 21 = .ok (.iconst 1, 1) := by decide +kernel
theorem dX3_withLetter_22 : decode cX3_withLetter 22 = .ok (.iand, 1) := by decide +kernel
theorem dX3_withLetter_23 : decode cX3_withLetter 23 = .ok (.iload_n 3, 1) := by decide +kernel
theorem dX3_withLetter_24 : decode cX3_withLetter 24 = .ok (.ishl, 1) := by decide +kernel
theorem dX3_withLetter_25 : decode cX3_withLetter 25 = .ok (.ior, 1) := by decide +kernel
theorem dX3_withLetter_26 : decode cX3_withLetter 26 = .ok (.istore_n 2, 1) := by decide +kernel
theorem dX3_withLetter_27 : decode cX3_withLetter 27 = .ok (.iinc 3 1, 3) := by decide +kernel
theorem dX3_withLetter_30 : decode cX3_withLetter 30 = .ok (.goto (-26), 3) := by decide +kernel
theorem dX3_withLetter_33 : decode cX3_withLetter 33 = .ok (.iload_n 2, 1) := by decide +kernel
theorem dX3_withLetter_34 : decode cX3_withLetter 34 = .ok (.ireturn, 1) := by decide +kernel
theorem dX3_leadingInto_0 : decode cX3_leadingInto 0 = .ok (.iconst 0, 1) := by decide +kernel
theorem dX3_leadingInto_1 : decode cX3_leadingInto 1 = .ok (.istore_n 2, 1) := by decide +kernel
theorem dX3_leadingInto_2 : decode cX3_leadingInto 2 = .ok (.iconst 0, 1) := by decide +kernel
theorem dX3_leadingInto_3 : decode cX3_leadingInto 3 = .ok (.istore_n 3, 1) := by decide +kernel
theorem dX3_leadingInto_4 : decode cX3_leadingInto 4 = .ok (.iload_n 3, 1) := by decide +kernel
theorem dX3_leadingInto_5 : decode cX3_leadingInto 5 = .ok (.aload_n 0, 1) := by decide +kernel
theorem dX3_leadingInto_6 : decode cX3_leadingInto 6 = .ok (.getfield 9, 3) := by decide +kernel
theorem dX3_leadingInto_9 : decode cX3_leadingInto 9 = .ok (.if_icmp .ge 26, 3) := by decide +kernel
theorem dX3_leadingInto_12 : decode cX3_leadingInto 12 = .ok (.aload_n 0, 1) := by decide +kernel
theorem dX3_leadingInto_13 : decode cX3_leadingInto 13 = .ok (.getfield 22, 3) := by decide +kernel
theorem dX3_leadingInto_16 : decode cX3_leadingInto 16 = .ok (.iload_n 3, 1) := by decide +kernel
theorem dX3_leadingInto_17 : decode cX3_leadingInto 17 = .ok (.iaload, 1) := by decide +kernel
theorem dX3_leadingInto_18 : decode cX3_leadingInto 18 = .ok (.iload_n 1, 1) := by decide +kernel
theorem dX3_leadingInto_19 : decode cX3_leadingInto 19 = .ok (.iand, 1) := by decide +kernel
theorem dX3_leadingInto_20 : decode cX3_leadingInto 20 = .ok (.ifCond .eq 9, 3) := by decide +kernel
theorem dX3_leadingInto_23 : decode cX3_leadingInto 23 = .ok (.iload_n 2, 1) := by decide +kernel
theorem dX3_leadingInto_24 : decode cX3_leadingInto 24 = .ok (.iconst 1, 1) := by decide +kernel
theorem dX3_leadingInto_25 : decode cX3_leadingInto 25 = .ok (.iload_n 3, 1) := by decide +kernel
theorem dX3_leadingInto_26 : decode cX3_leadingInto 26 = .ok (.ishl, 1) := by decide +kernel
theorem dX3_leadingInto_27 : decode cX3_leadingInto 27 = .ok (.ior, 1) := by decide +kernel
theorem dX3_leadingInto_28 : decode cX3_leadingInto 28 = .ok (.istore_n 2, 1) := by decide +kernel
theorem dX3_leadingInto_29 : decode cX3_leadingInto 29 = .ok (.iinc 3 1, 3) := by decide +kernel
theorem dX3_leadingInto_32 : decode cX3_leadingInto 32 = .ok (.goto (-28), 3) := by decide +kernel
theorem dX3_leadingInto_35 : decode cX3_leadingInto 35 = .ok (.iload_n 2, 1) := by decide +kernel
theorem dX3_leadingInto_36 : decode cX3_leadingInto 36 = .ok (.ireturn, 1) := by decide +kernel
theorem dX3_countSteps_0 : decode cX3_countSteps 0 = .ok (.iconst 0, 1) := by decide +kernel
theorem dX3_countSteps_1 : decode cX3_countSteps 1 = .ok (.istore_n 1, 1) := by decide +kernel
theorem dX3_countSteps_2 : decode cX3_countSteps 2 = .ok (.iconst 0, 1) := by decide +kernel
theorem dX3_countSteps_3 : decode cX3_countSteps 3 = .ok (.istore_n 2, 1) := by decide +kernel
theorem dX3_countSteps_4 : decode cX3_countSteps 4 = .ok (.iload_n 2, 1) := by decide +kernel
theorem dX3_countSteps_5 : decode cX3_countSteps 5 = .ok (.aload_n 0, 1) := by decide +kernel
theorem dX3_countSteps_6 : decode cX3_countSteps 6 = .ok (.getfield 9, 3) := by decide +kernel
theorem dX3_countSteps_9 : decode cX3_countSteps 9 = .ok (.if_icmp .ge 21, 3) := by decide +kernel
theorem dX3_countSteps_12 : decode cX3_countSteps 12 = .ok (.iload_n 1, 1) := by decide +kernel
theorem dX3_countSteps_13 : decode cX3_countSteps 13 = .ok (.aload_n 0, 1) := by decide +kernel
theorem dX3_countSteps_14 : decode cX3_countSteps 14 = .ok (.getfield 22, 3) := by decide +kernel
theorem dX3_countSteps_17 : decode cX3_countSteps 17 = .ok (.iload_n 2, 1) := by decide +kernel
theorem dX3_countSteps_18 : decode cX3_countSteps 18 = .ok (.iaload, 1) := by decide +kernel
theorem dX3_countSteps_19 : decode cX3_countSteps 19 = .ok (.invokestatic 38, 3) := by decide +kernel
theorem dX3_countSteps_22 : decode cX3_countSteps 22 = .ok (.iadd, 1) := by decide +kernel
theorem dX3_countSteps_23 : decode cX3_countSteps 23 = .ok (.istore_n 1, 1) := by decide +kernel
theorem dX3_countSteps_24 : decode cX3_countSteps 24 = .ok (.iinc 2 1, 3) := by decide +kernel
theorem dX3_countSteps_27 : decode cX3_countSteps 27 = .ok (.goto (-23), 3) := by decide +kernel
theorem dX3_countSteps_30 : decode cX3_countSteps 30 = .ok (.iload_n 1, 1) := by decide +kernel
theorem dX3_countSteps_31 : decode cX3_countSteps 31 = .ok (.ireturn, 1) := by decide +kernel
theorem dX3_putWorld_0 : decode cX3_putWorld 0 = .ok (.aload_n 0, 1) := by decide +kernel
theorem dX3_putWorld_1 : decode cX3_putWorld 1 = .ok (.getfield 9, 3) := by decide +kernel
theorem dX3_putWorld_4 : decode cX3_putWorld 4 = .ok (.istore_n 2, 1) := by decide +kernel
theorem dX3_putWorld_5 : decode cX3_putWorld 5 = .ok (.iload_n 2, 1) := by decide +kernel
theorem dX3_putWorld_6 : decode cX3_putWorld 6 = .ok (.bipush 10, 2) := by decide +kernel
theorem dX3_putWorld_8 : decode cX3_putWorld 8 = .ok (.if_icmp .ge 24, 3) := by decide +kernel
theorem dX3_putWorld_11 : decode cX3_putWorld 11 = .ok (.aload_n 0, 1) := by decide +kernel
theorem dX3_putWorld_12 : decode cX3_putWorld 12 = .ok (.getfield 18, 3) := by decide +kernel
theorem dX3_putWorld_15 : decode cX3_putWorld 15 = .ok (.iload_n 2, 1) := by decide +kernel
theorem dX3_putWorld_16 : decode cX3_putWorld 16 = .ok (.iload_n 1, 1) := by decide +kernel
theorem dX3_putWorld_17 : decode cX3_putWorld 17 = .ok (.iastore, 1) := by decide +kernel
theorem dX3_putWorld_18 : decode cX3_putWorld 18 = .ok (.aload_n 0, 1) := by decide +kernel
theorem dX3_putWorld_19 : decode cX3_putWorld 19 = .ok (.getfield 22, 3) := by decide +kernel
theorem dX3_putWorld_22 : decode cX3_putWorld 22 = .ok (.iload_n 2, 1) := by decide +kernel
theorem dX3_putWorld_23 : decode cX3_putWorld 23 = .ok (.iconst 0, 1) := by decide +kernel
theorem dX3_putWorld_24 : decode cX3_putWorld 24 = .ok (.iastore, 1) := by decide +kernel
theorem dX3_putWorld_25 : decode cX3_putWorld 25 = .ok (.aload_n 0, 1) := by decide +kernel
theorem dX3_putWorld_26 : decode cX3_putWorld 26 = .ok (.iload_n 2, 1) := by decide +kernel
theorem dX3_putWorld_27 : decode cX3_putWorld 27 = .ok (.iconst 1, 1) := by decide +kernel
theorem dX3_putWorld_28 : decode cX3_putWorld 28 = .ok (.iadd, 1) := by decide +kernel
theorem dX3_putWorld_29 : decode cX3_putWorld 29 = .ok (.putfield 9, 3) := by decide +kernel
theorem dX3_putWorld_32 : decode cX3_putWorld 32 = .ok (.iload_n 2, 1) := by decide +kernel
theorem dX3_putWorld_33 : decode cX3_putWorld 33 = .ok (.ireturn, 1) := by decide +kernel
theorem dX3_dropWorld_0 : decode cX3_dropWorld 0 = .ok (.aload_n 0, 1) := by decide +kernel
theorem dX3_dropWorld_1 : decode cX3_dropWorld 1 = .ok (.iload_n 1, 1) := by decide +kernel
theorem dX3_dropWorld_2 : decode cX3_dropWorld 2 = .ok (.invokevirtual 44, 3) := by decide +kernel
theorem dX3_dropWorld_5 : decode cX3_dropWorld 5 = .ok (.ifCond .ne 4, 3) := by decide +kernel
theorem dX3_dropWorld_8 : decode cX3_dropWorld 8 = .ok (.return_, 1) := by decide +kernel
theorem dX3_dropWorld_9 : decode cX3_dropWorld 9 = .ok (.iload_n 1, 1) := by decide +kernel
theorem dX3_dropWorld_10 : decode cX3_dropWorld 10 = .ok (.istore_n 2, 1) := by decide +kernel
theorem dX3_dropWorld_11 : decode cX3_dropWorld 11 = .ok (.iload_n 2, 1) := by decide +kernel
theorem dX3_dropWorld_12 : decode cX3_dropWorld 12 = .ok (.iconst 1, 1) := by decide +kernel
theorem dX3_dropWorld_13 : decode cX3_dropWorld 13 = .ok (.iadd, 1) := by decide +kernel
theorem dX3_dropWorld_14 : decode cX3_dropWorld 14 = .ok (.aload_n 0, 1) := by decide +kernel
theorem dX3_dropWorld_15 : decode cX3_dropWorld 15 = .ok (.getfield 9, 3) := by decide +kernel
theorem dX3_dropWorld_18 : decode cX3_dropWorld 18 = .ok (.if_icmp .ge 37, 3) := by decide +kernel
theorem dX3_dropWorld_21 : decode cX3_dropWorld 21 = .ok (.aload_n 0, 1) := by decide +kernel
theorem dX3_dropWorld_22 : decode cX3_dropWorld 22 = .ok (.getfield 18, 3) := by decide +kernel
theorem dX3_dropWorld_25 : decode cX3_dropWorld 25 = .ok (.iload_n 2, 1) := by decide +kernel
theorem dX3_dropWorld_26 : decode cX3_dropWorld 26 = .ok (.aload_n 0, 1) := by decide +kernel
theorem dX3_dropWorld_27 : decode cX3_dropWorld 27 = .ok (.getfield 18, 3) := by decide +kernel
theorem dX3_dropWorld_30 : decode cX3_dropWorld 30 = .ok (.iload_n 2, 1) := by decide +kernel
theorem dX3_dropWorld_31 : decode cX3_dropWorld 31 = .ok (.iconst 1, 1) := by decide +kernel
theorem dX3_dropWorld_32 : decode cX3_dropWorld 32 = .ok (.iadd, 1) := by decide +kernel
theorem dX3_dropWorld_33 : decode cX3_dropWorld 33 = .ok (.iaload, 1) := by decide +kernel
theorem dX3_dropWorld_34 : decode cX3_dropWorld 34 = .ok (.iastore, 1) := by decide +kernel
theorem dX3_dropWorld_35 : decode cX3_dropWorld 35 = .ok (.aload_n 0, 1) := by decide +kernel
theorem dX3_dropWorld_36 : decode cX3_dropWorld 36 = .ok (.getfield 22, 3) := by decide +kernel
theorem dX3_dropWorld_39 : decode cX3_dropWorld 39 = .ok (.iload_n 2, 1) := by decide +kernel
theorem dX3_dropWorld_40 : decode cX3_dropWorld 40 = .ok (.aload_n 0, 1) := by decide +kernel
theorem dX3_dropWorld_41 : decode cX3_dropWorld 41 = .ok (.getfield 22, 3) := by decide +kernel
theorem dX3_dropWorld_44 : decode cX3_dropWorld 44 = .ok (.iload_n 2, 1) := by decide +kernel
theorem dX3_dropWorld_45 : decode cX3_dropWorld 45 = .ok (.iconst 1, 1) := by decide +kernel
theorem dX3_dropWorld_46 : decode cX3_dropWorld 46 = .ok (.iadd, 1) := by decide +kernel
theorem dX3_dropWorld_47 : decode cX3_dropWorld 47 = .ok (.iaload, 1) := by decide +kernel
theorem dX3_dropWorld_48 : decode cX3_dropWorld 48 = .ok (.iastore, 1) := by decide +kernel
theorem dX3_dropWorld_49 : decode cX3_dropWorld 49 = .ok (.iinc 2 1, 3) := by decide +kernel
theorem dX3_dropWorld_52 : decode cX3_dropWorld 52 = .ok (.goto (-41), 3) := by decide +kernel
theorem dX3_dropWorld_55 : decode cX3_dropWorld 55 = .ok (.aload_n 0, 1) := by decide +kernel
theorem dX3_dropWorld_56 : decode cX3_dropWorld 56 = .ok (.dup, 1) := by decide +kernel
theorem dX3_dropWorld_57 : decode cX3_dropWorld 57 = .ok (.getfield 9, 3) := by decide +kernel
theorem dX3_dropWorld_60 : decode cX3_dropWorld 60 = .ok (.iconst 1, 1) := by decide +kernel
theorem dX3_dropWorld_61 : decode cX3_dropWorld 61 = .ok (.isub, 1) := by decide +kernel
theorem dX3_dropWorld_62 : decode cX3_dropWorld 62 = .ok (.putfield 9, 3) := by decide +kernel
theorem dX3_dropWorld_65 : decode cX3_dropWorld 65 = .ok (.iconst 0, 1) := by decide +kernel
theorem dX3_dropWorld_66 : decode cX3_dropWorld 66 = .ok (.istore_n 2, 1) := by decide +kernel
theorem dX3_dropWorld_67 : decode cX3_dropWorld 67 = .ok (.iload_n 2, 1) := by decide +kernel
theorem dX3_dropWorld_68 : decode cX3_dropWorld 68 = .ok (.aload_n 0, 1) := by decide +kernel
theorem dX3_dropWorld_69 : decode cX3_dropWorld 69 = .ok (.getfield 9, 3) := by decide +kernel
theorem dX3_dropWorld_72 : decode cX3_dropWorld 72 = .ok (.if_icmp .ge 42, 3) := by decide +kernel
theorem dX3_dropWorld_75 : decode cX3_dropWorld 75 = .ok (.aload_n 0, 1) := by decide +kernel
theorem dX3_dropWorld_76 : decode cX3_dropWorld 76 = .ok (.getfield 22, 3) := by decide +kernel
theorem dX3_dropWorld_79 : decode cX3_dropWorld 79 = .ok (.iload_n 2, 1) := by decide +kernel
theorem dX3_dropWorld_80 : decode cX3_dropWorld 80 = .ok (.iaload, 1) := by decide +kernel
theorem dX3_dropWorld_81 : decode cX3_dropWorld 81 = .ok (.iconst 1, 1) := by decide +kernel
theorem dX3_dropWorld_82 : decode cX3_dropWorld 82 = .ok (.iload_n 1, 1) := by decide +kernel
theorem dX3_dropWorld_83 : decode cX3_dropWorld 83 = .ok (.ishl, 1) := by decide +kernel
theorem dX3_dropWorld_84 : decode cX3_dropWorld 84 = .ok (.iconst 1, 1) := by decide +kernel
theorem dX3_dropWorld_85 : decode cX3_dropWorld 85 = .ok (.isub, 1) := by decide +kernel
theorem dX3_dropWorld_86 : decode cX3_dropWorld 86 = .ok (.iand, 1) := by decide +kernel
theorem dX3_dropWorld_87 : decode cX3_dropWorld 87 = .ok (.istore_n 3, 1) := by decide +kernel
theorem dX3_dropWorld_88 : decode cX3_dropWorld 88 = .ok (.aload_n 0, 1) := by decide +kernel
theorem dX3_dropWorld_89 : decode cX3_dropWorld 89 = .ok (.getfield 22, 3) := by decide +kernel
theorem dX3_dropWorld_92 : decode cX3_dropWorld 92 = .ok (.iload_n 2, 1) := by decide +kernel
theorem dX3_dropWorld_93 : decode cX3_dropWorld 93 = .ok (.iload_n 3, 1) := by decide +kernel
theorem dX3_dropWorld_94 : decode cX3_dropWorld 94 = .ok (.aload_n 0, 1) := by decide +kernel
theorem dX3_dropWorld_95 : decode cX3_dropWorld 95 = .ok (.getfield 22, 3) := by decide +kernel
theorem dX3_dropWorld_98 : decode cX3_dropWorld 98 = .ok (.iload_n 2, 1) := by decide +kernel
theorem dX3_dropWorld_99 : decode cX3_dropWorld 99 = .ok (.iaload, 1) := by decide +kernel
theorem dX3_dropWorld_100 : decode cX3_dropWorld 100 = .ok (.iload_n 1, 1) := by decide +kernel
theorem dX3_dropWorld_101 : decode cX3_dropWorld 101 = .ok (.iconst 1, 1) := by decide +kernel
theorem dX3_dropWorld_102 : decode cX3_dropWorld 102 = .ok (.iadd, 1) := by decide +kernel
theorem dX3_dropWorld_103 : decode cX3_dropWorld 103 = .ok (.ishr, 1) := by decide +kernel
theorem dX3_dropWorld_104 : decode cX3_dropWorld 104 = .ok (.iload_n 1, 1) := by decide +kernel
theorem dX3_dropWorld_105 : decode cX3_dropWorld 105 = .ok (.ishl, 1) := by decide +kernel
theorem dX3_dropWorld_106 : decode cX3_dropWorld 106 = .ok (.ior, 1) := by decide +kernel
theorem dX3_dropWorld_107 : decode cX3_dropWorld 107 = .ok (.iastore, 1) := by decide +kernel
theorem dX3_dropWorld_108 : decode cX3_dropWorld 108 = .ok (.iinc 2 1, 3) := by decide +kernel
theorem dX3_dropWorld_111 : decode cX3_dropWorld 111 = .ok (.goto (-44), 3) := by decide +kernel
theorem dX3_dropWorld_114 : decode cX3_dropWorld 114 = .ok (.return_, 1) := by decide +kernel
theorem dX3_turnStep_0 : decode cX3_turnStep 0 = .ok (.aload_n 0, 1) := by decide +kernel
theorem dX3_turnStep_1 : decode cX3_turnStep 1 = .ok (.iload_n 1, 1) := by decide +kernel
theorem dX3_turnStep_2 : decode cX3_turnStep 2 = .ok (.invokevirtual 44, 3) := by decide +kernel
theorem dX3_turnStep_5 : decode cX3_turnStep 5 = .ok (.ifCond .eq 23, 3) := by decide +kernel
theorem dX3_turnStep_8 : decode cX3_turnStep 8 = .ok (.aload_n 0, 1) := by decide +kernel
theorem dX3_turnStep_9 : decode cX3_turnStep 9 = .ok (.iload_n 2, 1) := by decide +kernel
theorem dX3_turnStep_10 : decode cX3_turnStep 10 = .ok (.invokevirtual 44, 3) := by decide +kernel
theorem dX3_turnStep_13 : decode cX3_turnStep 13 = .ok (.ifCond .eq 15, 3) := by decide +kernel
theorem dX3_turnStep_16 : decode cX3_turnStep 16 = .ok (.aload_n 0, 1) := by decide +kernel
theorem dX3_turnStep_17 : decode cX3_turnStep 17 = .ok (.getfield 22, 3) := by decide +kernel
theorem dX3_turnStep_20 : decode cX3_turnStep 20 = .ok (.iload_n 1, 1) := by decide +kernel
theorem dX3_turnStep_21 : decode cX3_turnStep 21 = .ok (.dup2, 1) := by decide +kernel
theorem dX3_turnStep_22 : decode cX3_turnStep 22 = .ok (.iaload, 1) := by decide +kernel
theorem dX3_turnStep_23 : decode cX3_turnStep 23 = .ok (.iconst 1, 1) := by decide +kernel
theorem dX3_turnStep_24 : decode cX3_turnStep 24 = .ok (.iload_n 2, 1) := by decide +kernel
theorem dX3_turnStep_25 : decode cX3_turnStep 25 = .ok (.ishl, 1) := by decide +kernel
theorem dX3_turnStep_26 : decode cX3_turnStep 26 = .ok (.ixor, 1) := by decide +kernel
theorem dX3_turnStep_27 : decode cX3_turnStep 27 = .ok (.iastore, 1) := by decide +kernel
theorem dX3_turnStep_28 : decode cX3_turnStep 28 = .ok (.return_, 1) := by decide +kernel
theorem dX3_turnLetter_0 : decode cX3_turnLetter 0 = .ok (.aload_n 0, 1) := by decide +kernel
theorem dX3_turnLetter_1 : decode cX3_turnLetter 1 = .ok (.iload_n 1, 1) := by decide +kernel
theorem dX3_turnLetter_2 : decode cX3_turnLetter 2 = .ok (.invokevirtual 44, 3) := by decide +kernel
theorem dX3_turnLetter_5 : decode cX3_turnLetter 5 = .ok (.ifCond .eq 15, 3) := by decide +kernel
theorem dX3_turnLetter_8 : decode cX3_turnLetter 8 = .ok (.aload_n 0, 1) := by decide +kernel
theorem dX3_turnLetter_9 : decode cX3_turnLetter 9 = .ok (.getfield 18, 3) := by decide +kernel
theorem dX3_turnLetter_12 : decode cX3_turnLetter 12 = .ok (.iload_n 1, 1) := by decide +kernel
theorem dX3_turnLetter_13 : decode cX3_turnLetter 13 = .ok (.dup2, 1) := by decide +kernel
theorem dX3_turnLetter_14 : decode cX3_turnLetter 14 = .ok (.iaload, 1) := by decide +kernel
theorem dX3_turnLetter_15 : decode cX3_turnLetter 15 = .ok (.iconst 1, 1) := by decide +kernel
theorem dX3_turnLetter_16 : decode cX3_turnLetter 16 = .ok (.iload_n 2, 1) := by decide +kernel
theorem dX3_turnLetter_17 : decode cX3_turnLetter 17 = .ok (.ishl, 1) := by decide +kernel
theorem dX3_turnLetter_18 : decode cX3_turnLetter 18 = .ok (.ixor, 1) := by decide +kernel
theorem dX3_turnLetter_19 : decode cX3_turnLetter 19 = .ok (.iastore, 1) := by decide +kernel
theorem dX3_turnLetter_20 : decode cX3_turnLetter 20 = .ok (.return_, 1) := by decide +kernel
theorem dX3_closeRing_0 : decode cX3_closeRing 0 = .ok (.iconst 0, 1) := by decide +kernel
theorem dX3_closeRing_1 : decode cX3_closeRing 1 = .ok (.istore_n 1, 1) := by decide +kernel
theorem dX3_closeRing_2 : decode cX3_closeRing 2 = .ok (.iload_n 1, 1) := by decide +kernel
theorem dX3_closeRing_3 : decode cX3_closeRing 3 = .ok (.aload_n 0, 1) := by decide +kernel
theorem dX3_closeRing_4 : decode cX3_closeRing 4 = .ok (.getfield 9, 3) := by decide +kernel
theorem dX3_closeRing_7 : decode cX3_closeRing 7 = .ok (.if_icmp .ge 39, 3) := by decide +kernel
theorem dX3_closeRing_10 : decode cX3_closeRing 10 = .ok (.iload_n 1, 1) := by decide +kernel
theorem dX3_closeRing_11 : decode cX3_closeRing 11 = .ok (.iconst 1, 1) := by decide +kernel
theorem dX3_closeRing_12 : decode cX3_closeRing 12 = .ok (.iadd, 1) := by decide +kernel
theorem dX3_closeRing_13 : decode cX3_closeRing 13 = .ok (.aload_n 0, 1) := by decide +kernel
theorem dX3_closeRing_14 : decode cX3_closeRing 14 = .ok (.getfield 9, 3) := by decide +kernel
theorem dX3_closeRing_17 : decode cX3_closeRing 17 = .ok (.if_icmp .ge 9, 3) := by decide +kernel
theorem dX3_closeRing_20 : decode cX3_closeRing 20 = .ok (.iload_n 1, 1) := by decide +kernel
theorem dX3_closeRing_21 : decode cX3_closeRing 21 = .ok (.iconst 1, 1) := by decide +kernel
theorem dX3_closeRing_22 : decode cX3_closeRing 22 = .ok (.iadd, 1) := by decide +kernel
theorem dX3_closeRing_23 : decode cX3_closeRing 23 = .ok (.goto 4, 3) := by decide +kernel
theorem dX3_closeRing_26 : decode cX3_closeRing 26 = .ok (.iconst 0, 1) := by decide +kernel
theorem dX3_closeRing_27 : decode cX3_closeRing 27 = .ok (.istore_n 2, 1) := by decide +kernel
theorem dX3_closeRing_28 : decode cX3_closeRing 28 = .ok (.aload_n 0, 1) := by decide +kernel
theorem dX3_closeRing_29 : decode cX3_closeRing 29 = .ok (.getfield 22, 3) := by decide +kernel
theorem dX3_closeRing_32 : decode cX3_closeRing 32 = .ok (.iload_n 1, 1) := by decide +kernel
theorem dX3_closeRing_33 : decode cX3_closeRing 33 = .ok (.dup2, 1) := by decide +kernel
theorem dX3_closeRing_34 : decode cX3_closeRing 34 = .ok (.iaload, 1) := by decide +kernel
theorem dX3_closeRing_35 : decode cX3_closeRing 35 = .ok (.iconst 1, 1) := by decide +kernel
theorem dX3_closeRing_36 : decode cX3_closeRing 36 = .ok (.iload_n 2, 1) := by decide +kernel
theorem dX3_closeRing_37 : decode cX3_closeRing 37 = .ok (.ishl, 1) := by decide +kernel
theorem dX3_closeRing_38 : decode cX3_closeRing 38 = .ok (.ior, 1) := by decide +kernel
theorem dX3_closeRing_39 : decode cX3_closeRing 39 = .ok (.iastore, 1) := by decide +kernel
theorem dX3_closeRing_40 : decode cX3_closeRing 40 = .ok (.iinc 1 1, 3) := by decide +kernel
theorem dX3_closeRing_43 : decode cX3_closeRing 43 = .ok (.goto (-41), 3) := by decide +kernel
theorem dX3_closeRing_46 : decode cX3_closeRing 46 = .ok (.return_, 1) := by decide +kernel
theorem dX3_lengthOf_0 : decode cX3_lengthOf 0 = .ok (.iload_n 1, 1) := by decide +kernel
theorem dX3_lengthOf_1 : decode cX3_lengthOf 1 = .ok (.ifCond .lt 17, 3) := by decide +kernel
theorem dX3_lengthOf_4 : decode cX3_lengthOf 4 = .ok (.iload_n 1, 1) := by decide +kernel
theorem dX3_lengthOf_5 : decode cX3_lengthOf 5 = .ok (.iconst 4, 1) := by decide +kernel
theorem dX3_lengthOf_6 : decode cX3_lengthOf 6 = .ok (.if_icmp .ge 12, 3) := by decide +kernel
theorem dX3_lengthOf_9 : decode cX3_lengthOf 9 = .ok (.aload_n 0, 1) := by decide +kernel
theorem dX3_lengthOf_10 : decode cX3_lengthOf 10 = .ok (.getfield 25, 3) := by decide +kernel
theorem dX3_lengthOf_13 : decode cX3_lengthOf 13 = .ok (.iload_n 1, 1) := by decide +kernel
theorem dX3_lengthOf_14 : decode cX3_lengthOf 14 = .ok (.iaload, 1) := by decide +kernel
theorem dX3_lengthOf_15 : decode cX3_lengthOf 15 = .ok (.goto 4, 3) := by decide +kernel
theorem dX3_lengthOf_18 : decode cX3_lengthOf 18 = .ok (.iconst 0, 1) := by decide +kernel
theorem dX3_lengthOf_19 : decode cX3_lengthOf 19 = .ok (.ireturn, 1) := by decide +kernel
theorem dX3_signAt_0 : decode cX3_signAt 0 = .ok (.iload_n 2, 1) := by decide +kernel
theorem dX3_signAt_1 : decode cX3_signAt 1 = .ok (.ifCond .lt 26, 3) := by decide +kernel
theorem dX3_signAt_4 : decode cX3_signAt 4 = .ok (.iload_n 2, 1) := by decide +kernel
theorem dX3_signAt_5 : decode cX3_signAt 5 = .ok (.aload_n 0, 1) := by decide +kernel
theorem dX3_signAt_6 : decode cX3_signAt 6 = .ok (.iload_n 1, 1) := by decide +kernel
theorem dX3_signAt_7 : decode cX3_signAt 7 = .ok (.invokevirtual 48, 3) := by decide +kernel
theorem dX3_signAt_10 : decode cX3_signAt 10 = .ok (.if_icmp .ge 17, 3) := by decide +kernel
theorem dX3_signAt_13 : decode cX3_signAt 13 = .ok (.aload_n 0, 1) := by decide +kernel
theorem dX3_signAt_14 : decode cX3_signAt 14 = .ok (.getfield 28, 3) := by decide +kernel
theorem dX3_signAt_17 : decode cX3_signAt 17 = .ok (.iload_n 1, 1) := by decide +kernel
theorem dX3_signAt_18 : decode cX3_signAt 18 = .ok (.bipush 40, 2) := by decide +kernel
theorem dX3_signAt_20 : decode cX3_signAt 20 = .ok (.imul, 1) := by decide +kernel
theorem dX3_signAt_21 : decode cX3_signAt 21 = .ok (.iload_n 2, 1) := by decide +kernel
theorem dX3_signAt_22 : decode cX3_signAt 22 = .ok (.iadd, 1) := by decide +kernel
theorem dX3_signAt_23 : decode cX3_signAt 23 = .ok (.caload, 1) := by decide +kernel
theorem dX3_signAt_24 : decode cX3_signAt 24 = .ok (.goto 4, 3) := by decide +kernel
theorem dX3_signAt_27 : decode cX3_signAt 27 = .ok (.iconst 0, 1) := by decide +kernel
theorem dX3_signAt_28 : decode cX3_signAt 28 = .ok (.ireturn, 1) := by decide +kernel
theorem dX3_putSign_0 : decode cX3_putSign 0 = .ok (.iload_n 1, 1) := by decide +kernel
theorem dX3_putSign_1 : decode cX3_putSign 1 = .ok (.ifCond .lt 30, 3) := by decide +kernel
theorem dX3_putSign_4 : decode cX3_putSign 4 = .ok (.iload_n 1, 1) := by decide +kernel
theorem dX3_putSign_5 : decode cX3_putSign 5 = .ok (.iconst 4, 1) := by decide +kernel
theorem dX3_putSign_6 : decode cX3_putSign 6 = .ok (.if_icmp .ge 25, 3) := by decide +kernel
theorem dX3_putSign_9 : decode cX3_putSign 9 = .ok (.iload_n 2, 1) := by decide +kernel
theorem dX3_putSign_10 : decode cX3_putSign 10 = .ok (.ifCond .lt 21, 3) := by decide +kernel
theorem dX3_putSign_13 : decode cX3_putSign 13 = .ok (.iload_n 2, 1) := by decide +kernel
theorem dX3_putSign_14 : decode cX3_putSign 14 = .ok (.bipush 40, 2) := by decide +kernel
theorem dX3_putSign_16 : decode cX3_putSign 16 = .ok (.if_icmp .ge 15, 3) := by decide +kernel
theorem dX3_putSign_19 : decode cX3_putSign 19 = .ok (.aload_n 0, 1) := by decide +kernel
theorem dX3_putSign_20 : decode cX3_putSign 20 = .ok (.getfield 28, 3) := by decide +kernel
theorem dX3_putSign_23 : decode cX3_putSign 23 = .ok (.iload_n 1, 1) := by decide +kernel
theorem dX3_putSign_24 : decode cX3_putSign 24 = .ok (.bipush 40, 2) := by decide +kernel
theorem dX3_putSign_26 : decode cX3_putSign 26 = .ok (.imul, 1) := by decide +kernel
theorem dX3_putSign_27 : decode cX3_putSign 27 = .ok (.iload_n 2, 1) := by decide +kernel
theorem dX3_putSign_28 : decode cX3_putSign 28 = .ok (.iadd, 1) := by decide +kernel
theorem dX3_putSign_29 : decode cX3_putSign 29 = .ok (.iload_n 3, 1) := by decide +kernel
theorem dX3_putSign_30 : decode cX3_putSign 30 = .ok (.castore, 1) := by decide +kernel
theorem dX3_putSign_31 : decode cX3_putSign 31 = .ok (.return_, 1) := by decide +kernel
theorem dX3_putLength_0 : decode cX3_putLength 0 = .ok (.iload_n 1, 1) := by decide +kernel
theorem dX3_putLength_1 : decode cX3_putLength 1 = .ok (.ifCond .lt 25, 3) := by decide +kernel
theorem dX3_putLength_4 : decode cX3_putLength 4 = .ok (.iload_n 1, 1) := by decide +kernel
theorem dX3_putLength_5 : decode cX3_putLength 5 = .ok (.iconst 4, 1) := by decide +kernel
theorem dX3_putLength_6 : decode cX3_putLength 6 = .ok (.if_icmp .ge 20, 3) := by decide +kernel
theorem dX3_putLength_9 : decode cX3_putLength 9 = .ok (.iload_n 2, 1) := by decide +kernel
theorem dX3_putLength_10 : decode cX3_putLength 10 = .ok (.ifCond .lt 16, 3) := by decide +kernel
theorem dX3_putLength_13 : decode cX3_putLength 13 = .ok (.iload_n 2, 1) := by decide +kernel
theorem dX3_putLength_14 : decode cX3_putLength 14 = .ok (.bipush 40, 2) := by decide +kernel
theorem dX3_putLength_16 : decode cX3_putLength 16 = .ok (.if_icmp .gt 10, 3) := by decide +kernel
theorem dX3_putLength_19 : decode cX3_putLength 19 = .ok (.aload_n 0, 1) := by decide +kernel
theorem dX3_putLength_20 : decode cX3_putLength 20 = .ok (.getfield 25, 3) := by decide +kernel
theorem dX3_putLength_23 : decode cX3_putLength 23 = .ok (.iload_n 1, 1) := by decide +kernel
theorem dX3_putLength_24 : decode cX3_putLength 24 = .ok (.iload_n 2, 1) := by decide +kernel
theorem dX3_putLength_25 : decode cX3_putLength 25 = .ok (.iastore, 1) := by decide +kernel
theorem dX3_putLength_26 : decode cX3_putLength 26 = .ok (.return_, 1) := by decide +kernel
theorem dX3_putWish_0 : decode cX3_putWish 0 = .ok (.iconst 0, 1) := by decide +kernel
theorem dX3_putWish_1 : decode cX3_putWish 1 = .ok (.istore_n 3, 1) := by decide +kernel
theorem dX3_putWish_2 : decode cX3_putWish 2 = .ok (.iload_n 3, 1) := by decide +kernel
theorem dX3_putWish_3 : decode cX3_putWish 3 = .ok (.aload_n 2, 1) := by decide +kernel
theorem dX3_putWish_4 : decode cX3_putWish 4 = .ok (.getfield 51, 3) := by decide +kernel
theorem dX3_putWish_7 : decode cX3_putWish 7 = .ok (.if_icmp .ge 20, 3) := by decide +kernel
theorem dX3_putWish_10 : decode cX3_putWish 10 = .ok (.aload_n 0, 1) := by decide +kernel
theorem dX3_putWish_11 : decode cX3_putWish 11 = .ok (.iload_n 1, 1) := by decide +kernel
theorem dX3_putWish_12 : decode cX3_putWish 12 = .ok (.iload_n 3, 1) := by decide +kernel
theorem dX3_putWish_13 : decode cX3_putWish 13 = .ok (.aload_n 2, 1) := by decide +kernel
theorem dX3_putWish_14 : decode cX3_putWish 14 = .ok (.iload_n 3, 1) := by decide +kernel
theorem dX3_putWish_15 : decode cX3_putWish 15 = .ok (.invokevirtual 56, 3) := by decide +kernel
theorem dX3_putWish_18 : decode cX3_putWish 18 = .ok (.invokevirtual 60, 3) := by decide +kernel
theorem dX3_putWish_21 : decode cX3_putWish 21 = .ok (.iinc 3 1, 3) := by decide +kernel
theorem dX3_putWish_24 : decode cX3_putWish 24 = .ok (.goto (-22), 3) := by decide +kernel
theorem dX3_putWish_27 : decode cX3_putWish 27 = .ok (.aload_n 0, 1) := by decide +kernel
theorem dX3_putWish_28 : decode cX3_putWish 28 = .ok (.iload_n 1, 1) := by decide +kernel
theorem dX3_putWish_29 : decode cX3_putWish 29 = .ok (.aload_n 2, 1) := by decide +kernel
theorem dX3_putWish_30 : decode cX3_putWish 30 = .ok (.getfield 51, 3) := by decide +kernel
theorem dX3_putWish_33 : decode cX3_putWish 33 = .ok (.invokevirtual 64, 3) := by decide +kernel
theorem dX3_putWish_36 : decode cX3_putWish 36 = .ok (.return_, 1) := by decide +kernel
theorem dX3_putNot_0 : decode cX3_putNot 0 = .ok (.aload_n 0, 1) := by decide +kernel
theorem dX3_putNot_1 : decode cX3_putNot 1 = .ok (.iload_n 1, 1) := by decide +kernel
theorem dX3_putNot_2 : decode cX3_putNot 2 = .ok (.invokevirtual 48, 3) := by decide +kernel
theorem dX3_putNot_5 : decode cX3_putNot 5 = .ok (.istore_n 2, 1) := by decide +kernel
theorem dX3_putNot_6 : decode cX3_putNot 6 = .ok (.iload_n 2, 1) := by decide +kernel
theorem dX3_putNot_7 : decode cX3_putNot 7 = .ok (.istore_n 3, 1) := by decide +kernel
theorem dX3_putNot_8 : decode cX3_putNot 8 = .ok (.iload_n 3, 1) := by decide +kernel
theorem dX3_putNot_9 : decode cX3_putNot 9 = .ok (.ifCond .le 23, 3) := by decide +kernel
theorem dX3_putNot_12 : decode cX3_putNot 12 = .ok (.aload_n 0, 1) := by decide +kernel
theorem dX3_putNot_13 : decode cX3_putNot 13 = .ok (.iload_n 1, 1) := by decide +kernel
theorem dX3_putNot_14 : decode cX3_putNot 14 = .ok (.iload_n 3, 1) := by decide +kernel
theorem dX3_putNot_15 : decode cX3_putNot 15 = .ok (.aload_n 0, 1) := by decide +kernel
theorem dX3_putNot_16 : decode cX3_putNot 16 = .ok (.iload_n 1, 1) := by decide +kernel
theorem dX3_putNot_17 : decode cX3_putNot 17 = .ok (.iload_n 3, 1) := by decide +kernel
theorem dX3_putNot_18 : decode cX3_putNot 18 = .ok (.iconst 1, 1) := by decide +kernel
theorem dX3_putNot_19 : decode cX3_putNot 19 = .ok (.isub, 1) := by decide +kernel
theorem dX3_putNot_20 : decode cX3_putNot 20 = .ok (.invokevirtual 68, 3) := by decide +kernel
theorem dX3_putNot_23 : decode cX3_putNot 23 = .ok (.invokevirtual 60, 3) := by decide +kernel
theorem dX3_putNot_26 : decode cX3_putNot 26 = .ok (.iinc 3 (-1), 3) := by decide +kernel
theorem dX3_putNot_29 : decode cX3_putNot 29 = .ok (.goto (-21), 3) := by decide +kernel
theorem dX3_putNot_32 : decode cX3_putNot 32 = .ok (.aload_n 0, 1) := by decide +kernel
theorem dX3_putNot_33 : decode cX3_putNot 33 = .ok (.iload_n 1, 1) := by decide +kernel
theorem dX3_putNot_34 : decode cX3_putNot 34 = .ok (.iconst 0, 1) := by decide +kernel
theorem dX3_putNot_35 : decode cX3_putNot 35 = .ok (.bipush 33, 2) := by decide +kernel
theorem dX3_putNot_37 : decode cX3_putNot 37 = .ok (.invokevirtual 60, 3) := by decide +kernel
theorem dX3_putNot_40 : decode cX3_putNot 40 = .ok (.aload_n 0, 1) := by decide +kernel
theorem dX3_putNot_41 : decode cX3_putNot 41 = .ok (.iload_n 1, 1) := by decide +kernel
theorem dX3_putNot_42 : decode cX3_putNot 42 = .ok (.iload_n 2, 1) := by decide +kernel
theorem dX3_putNot_43 : decode cX3_putNot 43 = .ok (.iconst 1, 1) := by decide +kernel
theorem dX3_putNot_44 : decode cX3_putNot 44 = .ok (.iadd, 1) := by decide +kernel
theorem dX3_putNot_45 : decode cX3_putNot 45 = .ok (.invokevirtual 64, 3) := by decide +kernel
theorem dX3_putNot_48 : decode cX3_putNot 48 = .ok (.return_, 1) := by decide +kernel
theorem dX3_dropNot_0 : decode cX3_dropNot 0 = .ok (.aload_n 0, 1) := by decide +kernel
theorem dX3_dropNot_1 : decode cX3_dropNot 1 = .ok (.iload_n 1, 1) := by decide +kernel
theorem dX3_dropNot_2 : decode cX3_dropNot 2 = .ok (.invokevirtual 48, 3) := by decide +kernel
theorem dX3_dropNot_5 : decode cX3_dropNot 5 = .ok (.istore_n 2, 1) := by decide +kernel
theorem dX3_dropNot_6 : decode cX3_dropNot 6 = .ok (.iconst 1, 1) := by decide +kernel
theorem dX3_dropNot_7 : decode cX3_dropNot 7 = .ok (.istore_n 3, 1) := by decide +kernel
theorem dX3_dropNot_8 : decode cX3_dropNot 8 = .ok (.iload_n 3, 1) := by decide +kernel
theorem dX3_dropNot_9 : decode cX3_dropNot 9 = .ok (.iload_n 2, 1) := by decide +kernel
theorem dX3_dropNot_10 : decode cX3_dropNot 10 = .ok (.if_icmp .ge 23, 3) := by decide +kernel
theorem dX3_dropNot_13 : decode cX3_dropNot 13 = .ok (.aload_n 0, 1) := by decide +kernel
theorem dX3_dropNot_14 : decode cX3_dropNot 14 = .ok (.iload_n 1, 1) := by decide +kernel
theorem dX3_dropNot_15 : decode cX3_dropNot 15 = .ok (.iload_n 3, 1) := by decide +kernel
theorem dX3_dropNot_16 : decode cX3_dropNot 16 = .ok (.iconst 1, 1) := by decide +kernel
theorem dX3_dropNot_17 : decode cX3_dropNot 17 = .ok (.isub, 1) := by decide +kernel
theorem dX3_dropNot_18 : decode cX3_dropNot 18 = .ok (.aload_n 0, 1) := by decide +kernel
theorem dX3_dropNot_19 : decode cX3_dropNot 19 = .ok (.iload_n 1, 1) := by decide +kernel
theorem dX3_dropNot_20 : decode cX3_dropNot 20 = .ok (.iload_n 3, 1) := by decide +kernel
theorem dX3_dropNot_21 : decode cX3_dropNot 21 = .ok (.invokevirtual 68, 3) := by decide +kernel
theorem dX3_dropNot_24 : decode cX3_dropNot 24 = .ok (.invokevirtual 60, 3) := by decide +kernel
theorem dX3_dropNot_27 : decode cX3_dropNot 27 = .ok (.iinc 3 1, 3) := by decide +kernel
theorem dX3_dropNot_30 : decode cX3_dropNot 30 = .ok (.goto (-22), 3) := by decide +kernel
theorem dX3_dropNot_33 : decode cX3_dropNot 33 = .ok (.aload_n 0, 1) := by decide +kernel
theorem dX3_dropNot_34 : decode cX3_dropNot 34 = .ok (.iload_n 1, 1) := by decide +kernel
theorem dX3_dropNot_35 : decode cX3_dropNot 35 = .ok (.iload_n 2, 1) := by decide +kernel
theorem dX3_dropNot_36 : decode cX3_dropNot 36 = .ok (.iconst 1, 1) := by decide +kernel
theorem dX3_dropNot_37 : decode cX3_dropNot 37 = .ok (.isub, 1) := by decide +kernel
theorem dX3_dropNot_38 : decode cX3_dropNot 38 = .ok (.invokevirtual 64, 3) := by decide +kernel
theorem dX3_dropNot_41 : decode cX3_dropNot 41 = .ok (.return_, 1) := by decide +kernel
theorem dX3_dropWish_0 : decode cX3_dropWish 0 = .ok (.aload_n 0, 1) := by decide +kernel
theorem dX3_dropWish_1 : decode cX3_dropWish 1 = .ok (.iload_n 1, 1) := by decide +kernel
theorem dX3_dropWish_2 : decode cX3_dropWish 2 = .ok (.invokevirtual 48, 3) := by decide +kernel
theorem dX3_dropWish_5 : decode cX3_dropWish 5 = .ok (.istore_n 2, 1) := by decide +kernel
theorem dX3_dropWish_6 : decode cX3_dropWish 6 = .ok (.aload_n 0, 1) := by decide +kernel
theorem dX3_dropWish_7 : decode cX3_dropWish 7 = .ok (.iload_n 1, 1) := by decide +kernel
theorem dX3_dropWish_8 : decode cX3_dropWish 8 = .ok (.iconst 0, 1) := by decide +kernel
theorem dX3_dropWish_9 : decode cX3_dropWish 9 = .ok (.invokevirtual 64, 3) := by decide +kernel
theorem dX3_dropWish_12 : decode cX3_dropWish 12 = .ok (.iload_n 2, 1) := by decide +kernel
theorem dX3_dropWish_13 : decode cX3_dropWish 13 = .ok (.ireturn, 1) := by decide +kernel
theorem dX3_countWishes_0 : decode cX3_countWishes 0 = .ok (.iconst 0, 1) := by decide +kernel
theorem dX3_countWishes_1 : decode cX3_countWishes 1 = .ok (.istore_n 1, 1) := by decide +kernel
theorem dX3_countWishes_2 : decode cX3_countWishes 2 = .ok (.iconst 0, 1) := by decide +kernel
theorem dX3_countWishes_3 : decode cX3_countWishes 3 = .ok (.istore_n 2, 1) := by decide +kernel
theorem dX3_countWishes_4 : decode cX3_countWishes 4 = .ok (.iload_n 2, 1) := by decide +kernel
theorem dX3_countWishes_5 : decode cX3_countWishes 5 = .ok (.iconst 4, 1) := by decide +kernel
theorem dX3_countWishes_6 : decode cX3_countWishes 6 = .ok (.if_icmp .ge 25, 3) := by decide +kernel
theorem dX3_countWishes_9 : decode cX3_countWishes 9 = .ok (.iload_n 1, 1) := by decide +kernel
theorem dX3_countWishes_10 : decode cX3_countWishes 10 = .ok (.aload_n 0, 1) := by decide +kernel
theorem dX3_countWishes_11 : decode cX3_countWishes 11 = .ok (.iload_n 2, 1) := by decide +kernel
theorem dX3_countWishes_12 : decode cX3_countWishes 12 = .ok (.invokevirtual 48, 3) := by decide +kernel
theorem dX3_countWishes_15 : decode cX3_countWishes 15 = .ok (.ifCond .le 7, 3) := by decide +kernel
theorem dX3_countWishes_18 : decode cX3_countWishes 18 = .ok (.iconst 1, 1) := by decide +kernel
theorem dX3_countWishes_19 : decode cX3_countWishes 19 = .ok (.goto 4, 3) := by decide +kernel
theorem dX3_countWishes_22 : decode cX3_countWishes 22 = .ok (.iconst 0, 1) := by decide +kernel
theorem dX3_countWishes_23 : decode cX3_countWishes 23 = .ok (.iadd, 1) := by decide +kernel
theorem dX3_countWishes_24 : decode cX3_countWishes 24 = .ok (.istore_n 1, 1) := by decide +kernel
theorem dX3_countWishes_25 : decode cX3_countWishes 25 = .ok (.iinc 2 1, 3) := by decide +kernel
theorem dX3_countWishes_28 : decode cX3_countWishes 28 = .ok (.goto (-24), 3) := by decide +kernel
theorem dX3_countWishes_31 : decode cX3_countWishes 31 = .ok (.iload_n 1, 1) := by decide +kernel
theorem dX3_countWishes_32 : decode cX3_countWishes 32 = .ok (.ireturn, 1) := by decide +kernel
theorem dX3_countSigns_0 : decode cX3_countSigns 0 = .ok (.iconst 0, 1) := by decide +kernel
theorem dX3_countSigns_1 : decode cX3_countSigns 1 = .ok (.istore_n 1, 1) := by decide +kernel
theorem dX3_countSigns_2 : decode cX3_countSigns 2 = .ok (.iconst 0, 1) := by decide +kernel
theorem dX3_countSigns_3 : decode cX3_countSigns 3 = .ok (.istore_n 2, 1) := by decide +kernel
theorem dX3_countSigns_4 : decode cX3_countSigns 4 = .ok (.iload_n 2, 1) := by decide +kernel
theorem dX3_countSigns_5 : decode cX3_countSigns 5 = .ok (.iconst 4, 1) := by decide +kernel
theorem dX3_countSigns_6 : decode cX3_countSigns 6 = .ok (.if_icmp .ge 17, 3) := by decide +kernel
theorem dX3_countSigns_9 : decode cX3_countSigns 9 = .ok (.iload_n 1, 1) := by decide +kernel
theorem dX3_countSigns_10 : decode cX3_countSigns 10 = .ok (.aload_n 0, 1) := by decide +kernel
theorem dX3_countSigns_11 : decode cX3_countSigns 11 = .ok (.iload_n 2, 1) := by decide +kernel
theorem dX3_countSigns_12 : decode cX3_countSigns 12 = .ok (.invokevirtual 48, 3) := by decide +kernel
theorem dX3_countSigns_15 : decode cX3_countSigns 15 = .ok (.iadd, 1) := by decide +kernel
theorem dX3_countSigns_16 : decode cX3_countSigns 16 = .ok (.istore_n 1, 1) := by decide +kernel
theorem dX3_countSigns_17 : decode cX3_countSigns 17 = .ok (.iinc 2 1, 3) := by decide +kernel
theorem dX3_countSigns_20 : decode cX3_countSigns 20 = .ok (.goto (-16), 3) := by decide +kernel
theorem dX3_countSigns_23 : decode cX3_countSigns 23 = .ok (.iload_n 1, 1) := by decide +kernel
theorem dX3_countSigns_24 : decode cX3_countSigns 24 = .ok (.ireturn, 1) := by decide +kernel
theorem dX4_init_0 : decode cX4_init 0 = .ok (.aload_n 0, 1) := by decide +kernel
theorem dX4_init_1 : decode cX4_init 1 = .ok (.invokespecial 3, 3) := by decide +kernel
theorem dX4_init_4 : decode cX4_init 4 = .ok (.aload_n 0, 1) := by decide +kernel
theorem dX4_init_5 : decode cX4_init 5 = .ok (.iconst 0, 1) := by decide +kernel
theorem dX4_init_6 : decode cX4_init 6 = .ok (.putfield 9, 3) := by decide +kernel
theorem dX4_init_9 : decode cX4_init 9 = .ok (.aload_n 0, 1) := by decide +kernel
theorem dX4_init_10 : decode cX4_init 10 = .ok (.bipush 60, 2) := by decide +kernel
theorem dX4_init_12 : decode cX4_init 12 = .ok (.newarray .char, 2) := by decide +kernel
theorem dX4_init_14 : decode cX4_init 14 = .ok (.putfield 15, 3) := by decide +kernel
theorem dX4_init_17 : decode cX4_init 17 = .ok (.aload_n 0, 1) := by decide +kernel
theorem dX4_init_18 : decode cX4_init 18 = .ok (.iconst 1, 1) := by decide +kernel
theorem dX4_init_19 : decode cX4_init 19 = .ok (.putfield 19, 3) := by decide +kernel
theorem dX4_init_22 : decode cX4_init 22 = .ok (.aload_n 0, 1) := by decide +kernel
theorem dX4_init_23 : decode cX4_init 23 = .ok (.iconst 0, 1) := by decide +kernel
theorem dX4_init_24 : decode cX4_init 24 = .ok (.putfield 22, 3) := by decide +kernel
theorem dX4_init_27 : decode cX4_init 27 = .ok (.return_, 1) := by decide +kernel
theorem dX4_put_0 : decode cX4_put 0 = .ok (.aload_n 0, 1) := by decide +kernel
theorem dX4_put_1 : decode cX4_put 1 = .ok (.getfield 9, 3) := by decide +kernel
theorem dX4_put_4 : decode cX4_put 4 = .ok (.ifCond .lt 32, 3) := by decide +kernel
theorem dX4_put_7 : decode cX4_put 7 = .ok (.aload_n 0, 1) := by decide +kernel
theorem dX4_put_8 : decode cX4_put 8 = .ok (.getfield 9, 3) := by decide +kernel
theorem dX4_put_11 : decode cX4_put 11 = .ok (.bipush 60, 2) := by decide +kernel
theorem dX4_put_13 : decode cX4_put 13 = .ok (.if_icmp .ge 23, 3) := by decide +kernel
theorem dX4_put_16 : decode cX4_put 16 = .ok (.aload_n 0, 1) := by decide +kernel
theorem dX4_put_17 : decode cX4_put 17 = .ok (.getfield 15, 3) := by decide +kernel
theorem dX4_put_20 : decode cX4_put 20 = .ok (.aload_n 0, 1) := by decide +kernel
theorem dX4_put_21 : decode cX4_put 21 = .ok (.getfield 9, 3) := by decide +kernel
theorem dX4_put_24 : decode cX4_put 24 = .ok (.iload_n 1, 1) := by decide +kernel
theorem dX4_put_25 : decode cX4_put 25 = .ok (.castore, 1) := by decide +kernel
theorem dX4_put_26 : decode cX4_put 26 = .ok (.aload_n 0, 1) := by decide +kernel
theorem dX4_put_27 : decode cX4_put 27 = .ok (.dup, 1) := by decide +kernel
theorem dX4_put_28 : decode cX4_put 28 = .ok (.getfield 9, 3) := by decide +kernel
theorem dX4_put_31 : decode cX4_put 31 = .ok (.iconst 1, 1) := by decide +kernel
theorem dX4_put_32 : decode cX4_put 32 = .ok (.iadd, 1) := by decide +kernel
theorem dX4_put_33 : decode cX4_put 33 = .ok (.putfield 9, 3) := by decide +kernel
theorem dX4_put_36 : decode cX4_put 36 = .ok (.return_, 1) := by decide +kernel
theorem dX4_at_0 : decode cX4_at 0 = .ok (.iload_n 1, 1) := by decide +kernel
theorem dX4_at_1 : decode cX4_at 1 = .ok (.ifCond .lt 20, 3) := by decide +kernel
theorem dX4_at_4 : decode cX4_at 4 = .ok (.iload_n 1, 1) := by decide +kernel
theorem dX4_at_5 : decode cX4_at 5 = .ok (.aload_n 0, 1) := by decide +kernel
theorem dX4_at_6 : decode cX4_at 6 = .ok (.getfield 9, 3) := by decide +kernel
theorem dX4_at_9 : decode cX4_at 9 = .ok (.if_icmp .ge 12, 3) := by decide +kernel
theorem dX4_at_12 : decode cX4_at 12 = .ok (.aload_n 0, 1) := by decide +kernel
theorem dX4_at_13 : decode cX4_at 13 = .ok (.getfield 15, 3) := by decide +kernel
theorem dX4_at_16 : decode cX4_at 16 = .ok (.iload_n 1, 1) := by decide +kernel
theorem dX4_at_17 : decode cX4_at 17 = .ok (.caload, 1) := by decide +kernel
theorem dX4_at_18 : decode cX4_at 18 = .ok (.goto 4, 3) := by decide +kernel
theorem dX4_at_21 : decode cX4_at 21 = .ok (.iconst 0, 1) := by decide +kernel
theorem dX4_at_22 : decode cX4_at 22 = .ok (.ireturn, 1) := by decide +kernel
theorem dX4_isWish_0 : decode cX4_isWish 0 = .ok (.aload_n 0, 1) := by decide +kernel
theorem dX4_isWish_1 : decode cX4_isWish 1 = .ok (.invokevirtual 26, 3) := by decide +kernel
theorem dX4_isWish_4 : decode cX4_isWish 4 = .ok (.aload_n 0, 1) := by decide +kernel
theorem dX4_isWish_5 : decode cX4_isWish 5 = .ok (.getfield 9, 3) := by decide +kernel
theorem dX4_isWish_8 : decode cX4_isWish 8 = .ok (.if_icmp .ne 14, 3) := by decide +kernel
theorem dX4_isWish_11 : decode cX4_isWish 11 = .ok (.aload_n 0, 1) := by decide +kernel
theorem dX4_isWish_12 : decode cX4_isWish 12 = .ok (.getfield 19, 3) := by decide +kernel
theorem dX4_isWish_15 : decode cX4_isWish 15 = .ok (.ifCond .ne 7, 3) := by decide +kernel
theorem dX4_isWish_18 : decode cX4_isWish 18 = .ok (.iconst 1, 1) := by decide +kernel
theorem dX4_isWish_19 : decode cX4_isWish 19 = .ok (.goto 4, 3) := by decide +kernel
theorem dX4_isWish_22 : decode cX4_isWish 22 = .ok (.iconst 0, 1) := by decide +kernel
theorem dX4_isWish_23 : decode cX4_isWish 23 = .ok (.ireturn, 1) := by decide +kernel
theorem dX4_firstFault_0 : decode cX4_firstFault 0 = .ok (.aload_n 0, 1) := by decide +kernel
theorem dX4_firstFault_1 : decode cX4_firstFault 1 = .ok (.iconst 1, 1) := by decide +kernel
theorem dX4_firstFault_2 : decode cX4_firstFault 2 = .ok (.putfield 19, 3) := by decide +kernel
theorem dX4_firstFault_5 : decode cX4_firstFault 5 = .ok (.aload_n 0, 1) := by decide +kernel
theorem dX4_firstFault_6 : decode cX4_firstFault 6 = .ok (.iconst 0, 1) := by decide +kernel
theorem dX4_firstFault_7 : decode cX4_firstFault 7 = .ok (.putfield 22, 3) := by decide +kernel
theorem dX4_firstFault_10 : decode cX4_firstFault 10 = .ok (.iconst 0, 1) := by decide +kernel
theorem dX4_firstFault_11 : decode cX4_firstFault 11 = .ok (.istore_n 1, 1) := by decide +kernel
theorem dX4_firstFault_12 : decode cX4_firstFault 12 = .ok (.iload_n 1, 1) := by decide +kernel
theorem dX4_firstFault_13 : decode cX4_firstFault 13 = .ok (.aload_n 0, 1) := by decide +kernel
theorem dX4_firstFault_14 : decode cX4_firstFault 14 = .ok (.getfield 9, 3) := by decide +kernel
theorem dX4_firstFault_17 : decode cX4_firstFault 17 = .ok (.if_icmp .ge 36, 3) := by decide +kernel
theorem dX4_firstFault_20 : decode cX4_firstFault 20 = .ok (.aload_n 0, 1) := by decide +kernel
theorem dX4_firstFault_21 : decode cX4_firstFault 21 = .ok (.aload_n 0, 1) := by decide +kernel
theorem dX4_firstFault_22 : decode cX4_firstFault 22 = .ok (.iload_n 1, 1) := by decide +kernel
theorem dX4_firstFault_23 : decode cX4_firstFault 23 = .ok (.invokevirtual 30, 3) := by decide +kernel
theorem dX4_firstFault_26 : decode cX4_firstFault 26 = .ok (.invokevirtual 34, 3) := by decide +kernel
theorem dX4_firstFault_29 : decode cX4_firstFault 29 = .ok (.ifCond .eq 16, 3) := by decide +kernel
theorem dX4_firstFault_32 : decode cX4_firstFault 32 = .ok (.iload_n 1, 1) := by decide +kernel
theorem dX4_firstFault_33 : decode cX4_firstFault 33 = .ok (.iconst 1, 1) := by decide +kernel
theorem dX4_firstFault_34 : decode cX4_firstFault 34 = .ok (.iadd, 1) := by decide +kernel
theorem dX4_firstFault_35 : decode cX4_firstFault 35 = .ok (.aload_n 0, 1) := by decide +kernel
theorem dX4_firstFault_36 : decode cX4_firstFault 36 = .ok (.invokevirtual 38, 3) := by decide +kernel
theorem dX4_firstFault_39 : decode cX4_firstFault 39 = .ok (.iadd, 1) := by decide +kernel
theorem dX4_firstFault_40 : decode cX4_firstFault 40 = .ok (.bipush 40, 2) := by decide +kernel
theorem dX4_firstFault_42 : decode cX4_firstFault 42 = .ok (.if_icmp .le 5, 3) := by decide +kernel
theorem dX4_firstFault_45 : decode cX4_firstFault 45 = .ok (.iload_n 1, 1) := by decide +kernel
theorem dX4_firstFault_46 : decode cX4_firstFault 46 = .ok (.ireturn, 1) := by decide +kernel
theorem dX4_firstFault_47 : decode cX4_firstFault 47 = .ok (.iinc 1 1, 3) := by decide +kernel
theorem dX4_firstFault_50 : decode cX4_firstFault 50 = .ok (.goto (-38), 3) := by decide +kernel
theorem dX4_firstFault_53 : decode cX4_firstFault 53 = .ok (.aload_n 0, 1) := by decide +kernel
theorem dX4_firstFault_54 : decode cX4_firstFault 54 = .ok (.getfield 9, 3) := by decide +kernel
theorem dX4_firstFault_57 : decode cX4_firstFault 57 = .ok (.ireturn, 1) := by decide +kernel
theorem dX4_leastRest_0 : decode cX4_leastRest 0 = .ok (.aload_n 0, 1) := by decide +kernel
theorem dX4_leastRest_1 : decode cX4_leastRest 1 = .ok (.getfield 19, 3) := by decide +kernel
theorem dX4_leastRest_4 : decode cX4_leastRest 4 = .ok (.aload_n 0, 1) := by decide +kernel
theorem dX4_leastRest_5 : decode cX4_leastRest 5 = .ok (.getfield 22, 3) := by decide +kernel
theorem dX4_leastRest_8 : decode cX4_leastRest 8 = .ok (.ifCond .eq 7, 3) := by decide +kernel
theorem dX4_leastRest_11 : decode cX4_leastRest 11 = .ok (.iconst 1, 1) := by decide +kernel
theorem dX4_leastRest_12 : decode cX4_leastRest 12 = .ok (.goto 4, 3) := by decide +kernel
theorem dX4_leastRest_15 : decode cX4_leastRest 15 = .ok (.iconst 0, 1) := by decide +kernel
theorem dX4_leastRest_16 : decode cX4_leastRest 16 = .ok (.iadd, 1) := by decide +kernel
theorem dX4_leastRest_17 : decode cX4_leastRest 17 = .ok (.ireturn, 1) := by decide +kernel
theorem dX4_takes_0 : decode cX4_takes 0 = .ok (.aload_n 0, 1) := by decide +kernel
theorem dX4_takes_1 : decode cX4_takes 1 = .ok (.getfield 22, 3) := by decide +kernel
theorem dX4_takes_4 : decode cX4_takes 4 = .ok (.ifCond .eq 9, 3) := by decide +kernel
theorem dX4_takes_7 : decode cX4_takes 7 = .ok (.aload_n 0, 1) := by decide +kernel
theorem dX4_takes_8 : decode cX4_takes 8 = .ok (.iload_n 1, 1) := by decide +kernel
theorem dX4_takes_9 : decode cX4_takes 9 = .ok (.invokevirtual 41, 3) := by decide +kernel
theorem dX4_takes_12 : decode cX4_takes 12 = .ok (.ireturn, 1) := by decide +kernel
theorem dX4_takes_13 : decode cX4_takes 13 = .ok (.aload_n 0, 1) := by decide +kernel
theorem dX4_takes_14 : decode cX4_takes 14 = .ok (.getfield 19, 3) := by decide +kernel
theorem dX4_takes_17 : decode cX4_takes 17 = .ok (.ifCond .le 15, 3) := by decide +kernel
theorem dX4_takes_20 : decode cX4_takes 20 = .ok (.aload_n 0, 1) := by decide +kernel
theorem dX4_takes_21 : decode cX4_takes 21 = .ok (.iload_n 1, 1) := by decide +kernel
theorem dX4_takes_22 : decode cX4_takes 22 = .ok (.invokevirtual 44, 3) := by decide +kernel
theorem dX4_takes_25 : decode cX4_takes 25 = .ok (.ifCond .eq 7, 3) := by decide +kernel
theorem dX4_takes_28 : decode cX4_takes 28 = .ok (.iconst 1, 1) := by decide +kernel
theorem dX4_takes_29 : decode cX4_takes 29 = .ok (.goto 4, 3) := by decide +kernel
theorem dX4_takes_32 : decode cX4_takes 32 = .ok (.iconst 0, 1) := by decide +kernel
theorem dX4_takes_33 : decode cX4_takes 33 = .ok (.ireturn, 1) := by decide +kernel
theorem dX4_takesSecond_0 : decode cX4_takesSecond 0 = .ok (.aload_n 0, 1) := by decide +kernel
theorem dX4_takesSecond_1 : decode cX4_takesSecond 1 = .ok (.iconst 0, 1) := by decide +kernel
theorem dX4_takesSecond_2 : decode cX4_takesSecond 2 = .ok (.putfield 22, 3) := by decide +kernel
theorem dX4_takesSecond_5 : decode cX4_takesSecond 5 = .ok (.iload_n 1, 1) := by decide +kernel
theorem dX4_takesSecond_6 : decode cX4_takesSecond 6 = .ok (.lookupswitch 56 #[(70, 54), (71, 54), (85, 42), (88, 54)], 42) := by decide +kernel
theorem dX4_takesSecond_48 : decode cX4_takesSecond 48 = .ok (.aload_n 0, 1) := by decide +kernel
theorem dX4_takesSecond_49 : decode cX4_takesSecond 49 = .ok (.dup, 1) := by decide +kernel
theorem dX4_takesSecond_50 : decode cX4_takesSecond 50 = .ok (.getfield 19, 3) := by decide +kernel
theorem dX4_takesSecond_53 : decode cX4_takesSecond 53 = .ok (.iconst 1, 1) := by decide +kernel
theorem dX4_takesSecond_54 : decode cX4_takesSecond 54 = .ok (.iadd, 1) := by decide +kernel
theorem dX4_takesSecond_55 : decode cX4_takesSecond 55 = .ok (.putfield 19, 3) := by decide +kernel
theorem dX4_takesSecond_58 : decode cX4_takesSecond 58 = .ok (.iconst 1, 1) := by decide +kernel
theorem dX4_takesSecond_59 : decode cX4_takesSecond 59 = .ok (.ireturn, 1) := by decide +kernel
theorem dX4_takesSecond_60 : decode cX4_takesSecond 60 = .ok (.iconst 1, 1) := by decide +kernel
theorem dX4_takesSecond_61 : decode cX4_takesSecond 61 = .ok (.ireturn, 1) := by decide +kernel
theorem dX4_takesSecond_62 : decode cX4_takesSecond 62 = .ok (.iconst 0, 1) := by decide +kernel
theorem dX4_takesSecond_63 : decode cX4_takesSecond 63 = .ok (.ireturn, 1) := by decide +kernel
theorem dX4_takesFirst_0 : decode cX4_takesFirst 0 = .ok (.iload_n 1, 1) := by decide +kernel
theorem dX4_takesFirst_1 : decode cX4_takesFirst 1 = .ok (.lookupswitch 124 #[(33, 103), (38, 105), (65, 117), (69, 117), (97, 91), (98, 91), (99, 91), (100, 91), (116, 91), (124, 105)], 91) := by decide +kernel
theorem dX4_takesFirst_92 : decode cX4_takesFirst 92 = .ok (.aload_n 0, 1) := by decide +kernel
theorem dX4_takesFirst_93 : decode cX4_takesFirst 93 = .ok (.dup, 1) := by decide +kernel
theorem dX4_takesFirst_94 : decode cX4_takesFirst 94 = .ok (.getfield 19, 3) := by decide +kernel
theorem dX4_takesFirst_97 : decode cX4_takesFirst 97 = .ok (.iconst 1, 1) := by decide +kernel
theorem dX4_takesFirst_98 : decode cX4_takesFirst 98 = .ok (.isub, 1) := by decide +kernel
theorem dX4_takesFirst_99 : decode cX4_takesFirst 99 = .ok (.putfield 19, 3) := by decide +kernel
theorem dX4_takesFirst_102 : decode cX4_takesFirst 102 = .ok (.iconst 1, 1) := by decide +kernel
theorem dX4_takesFirst_103 : decode cX4_takesFirst 103 = .ok (.ireturn, 1) := by decide +kernel
theorem dX4_takesFirst_104 : decode cX4_takesFirst 104 = .ok (.iconst 1, 1) := by decide +kernel
theorem dX4_takesFirst_105 : decode cX4_takesFirst 105 = .ok (.ireturn, 1) := by decide +kernel
theorem dX4_takesFirst_106 : decode cX4_takesFirst 106 = .ok (.aload_n 0, 1) := by decide +kernel
theorem dX4_takesFirst_107 : decode cX4_takesFirst 107 = .ok (.dup, 1) := by decide +kernel
theorem dX4_takesFirst_108 : decode cX4_takesFirst 108 = .ok (.getfield 19, 3) := by decide +kernel
theorem dX4_takesFirst_111 : decode cX4_takesFirst 111 = .ok (.iconst 1, 1) := by decide +kernel
theorem dX4_takesFirst_112 : decode cX4_takesFirst 112 = .ok (.iadd, 1) := by decide +kernel
theorem dX4_takesFirst_113 : decode cX4_takesFirst 113 = .ok (.putfield 19, 3) := by decide +kernel
theorem dX4_takesFirst_116 : decode cX4_takesFirst 116 = .ok (.iconst 1, 1) := by decide +kernel
theorem dX4_takesFirst_117 : decode cX4_takesFirst 117 = .ok (.ireturn, 1) := by decide +kernel
theorem dX4_takesFirst_118 : decode cX4_takesFirst 118 = .ok (.aload_n 0, 1) := by decide +kernel
theorem dX4_takesFirst_119 : decode cX4_takesFirst 119 = .ok (.iconst 1, 1) := by decide +kernel
theorem dX4_takesFirst_120 : decode cX4_takesFirst 120 = .ok (.putfield 22, 3) := by decide +kernel
theorem dX4_takesFirst_123 : decode cX4_takesFirst 123 = .ok (.iconst 1, 1) := by decide +kernel
theorem dX4_takesFirst_124 : decode cX4_takesFirst 124 = .ok (.ireturn, 1) := by decide +kernel
theorem dX4_takesFirst_125 : decode cX4_takesFirst 125 = .ok (.iconst 0, 1) := by decide +kernel
theorem dX4_takesFirst_126 : decode cX4_takesFirst 126 = .ok (.ireturn, 1) := by decide +kernel
theorem dX5_init_0 : decode cX5_init 0 = .ok (.aload_n 0, 1) := by decide +kernel
theorem dX5_init_1 : decode cX5_init 1 = .ok (.invokespecial 3, 3) := by decide +kernel
theorem dX5_init_4 : decode cX5_init 4 = .ok (.aload_n 0, 1) := by decide +kernel
theorem dX5_init_5 : decode cX5_init 5 = .ok (.iconst (-1), 1) := by decide +kernel
theorem dX5_init_6 : decode cX5_init 6 = .ok (.putfield 9, 3) := by decide +kernel
theorem dX5_init_9 : decode cX5_init 9 = .ok (.aload_n 0, 1) := by decide +kernel
theorem dX5_init_10 : decode cX5_init 10 = .ok (.iconst (-1), 1) := by decide +kernel
theorem dX5_init_11 : decode cX5_init 11 = .ok (.putfield 15, 3) := by decide +kernel
theorem dX5_init_14 : decode cX5_init 14 = .ok (.aload_n 0, 1) := by decide +kernel
theorem dX5_init_15 : decode cX5_init 15 = .ok (.new 18, 3) := by decide +kernel
theorem dX5_init_18 : decode cX5_init 18 = .ok (.dup, 1) := by decide +kernel
theorem dX5_init_19 : decode cX5_init 19 = .ok (.invokespecial 20, 3) := by decide +kernel
theorem dX5_init_22 : decode cX5_init 22 = .ok (.putfield 21, 3) := by decide +kernel
theorem dX5_init_25 : decode cX5_init 25 = .ok (.aload_n 0, 1) := by decide +kernel
theorem dX5_init_26 : decode cX5_init 26 = .ok (.new 25, 3) := by decide +kernel
theorem dX5_init_29 : decode cX5_init 29 = .ok (.dup, 1) := by decide +kernel
theorem dX5_init_30 : decode cX5_init 30 = .ok (.aload_n 0, 1) := by decide +kernel
theorem dX5_init_31 : decode cX5_init 31 = .ok (.getfield 21, 3) := by decide +kernel
theorem dX5_init_34 : decode cX5_init 34 = .ok (.invokespecial 27, 3) := by decide +kernel
theorem dX5_init_37 : decode cX5_init 37 = .ok (.putfield 30, 3) := by decide +kernel
theorem dX5_init_40 : decode cX5_init 40 = .ok (.return_, 1) := by decide +kernel
theorem dX5_flips_0 : decode cX5_flips 0 = .ok (.aload_n 0, 1) := by decide +kernel
theorem dX5_flips_1 : decode cX5_flips 1 = .ok (.aload_n 1, 1) := by decide +kernel
theorem dX5_flips_2 : decode cX5_flips 2 = .ok (.iload_n 2, 1) := by decide +kernel
theorem dX5_flips_3 : decode cX5_flips 3 = .ok (.invokevirtual 34, 3) := by decide +kernel
theorem dX5_flips_6 : decode cX5_flips 6 = .ok (.aload_n 0, 1) := by decide +kernel
theorem dX5_flips_7 : decode cX5_flips 7 = .ok (.getfield 30, 3) := by decide +kernel
theorem dX5_flips_10 : decode cX5_flips 10 = .ok (.getfield 38, 3) := by decide +kernel
theorem dX5_flips_13 : decode cX5_flips 13 = .ok (.ifCond .ne 7, 3) := by decide +kernel
theorem dX5_flips_16 : decode cX5_flips 16 = .ok (.iconst 0, 1) := by decide +kernel
theorem dX5_flips_17 : decode cX5_flips 17 = .ok (.goto 10, 3) := by decide +kernel
theorem dX5_flips_20 : decode cX5_flips 20 = .ok (.aload_n 0, 1) := by decide +kernel
theorem dX5_flips_21 : decode cX5_flips 21 = .ok (.getfield 21, 3) := by decide +kernel
theorem dX5_flips_24 : decode cX5_flips 24 = .ok (.getfield 41, 3) := by decide +kernel
theorem dX5_flips_27 : decode cX5_flips 27 = .ok (.istore 4, 2) := by decide +kernel
theorem dX5_flips_29 : decode cX5_flips 29 = .ok (.iconst 0, 1) := by decide +kernel
theorem dX5_flips_30 : decode cX5_flips 30 = .ok (.istore 5, 2) := by decide +kernel
theorem dX5_flips_32 : decode cX5_flips 32 = .ok (.iload 5, 2) := by decide +kernel
theorem dX5_flips_34 : decode cX5_flips 34 = .ok (.iload 4, 2) := by decide +kernel
theorem dX5_flips_36 : decode cX5_flips 36 = .ok (.if_icmp .ge 65, 3) := by decide +kernel
theorem dX5_flips_39 : decode cX5_flips 39 = .ok (.iconst 0, 1) := by decide +kernel
theorem dX5_flips_40 : decode cX5_flips 40 = .ok (.istore 6, 2) := by decide +kernel
theorem dX5_flips_42 : decode cX5_flips 42 = .ok (.iload 6, 2) := by decide +kernel
theorem dX5_flips_44 : decode cX5_flips 44 = .ok (.iconst 4, 1) := by decide +kernel
theorem dX5_flips_45 : decode cX5_flips 45 = .ok (.if_icmp .ge 50, 3) := by decide +kernel
theorem dX5_flips_48 : decode cX5_flips 48 = .ok (.aload_n 0, 1) := by decide +kernel
theorem dX5_flips_49 : decode cX5_flips 49 = .ok (.getfield 21, 3) := by decide +kernel
theorem dX5_flips_52 : decode cX5_flips 52 = .ok (.iload 5, 2) := by decide +kernel
theorem dX5_flips_54 : decode cX5_flips 54 = .ok (.iload 6, 2) := by decide +kernel
theorem dX5_flips_56 : decode cX5_flips 56 = .ok (.invokevirtual 44, 3) := by decide +kernel
theorem dX5_flips_59 : decode cX5_flips 59 = .ok (.aload_n 0, 1) := by decide +kernel
theorem dX5_flips_60 : decode cX5_flips 60 = .ok (.getfield 30, 3) := by decide +kernel
theorem dX5_flips_63 : decode cX5_flips 63 = .ok (.invokevirtual 48, 3) := by decide +kernel
theorem dX5_flips_66 : decode cX5_flips 66 = .ok (.aload_n 0, 1) := by decide +kernel
theorem dX5_flips_67 : decode cX5_flips 67 = .ok (.iload_n 3, 1) := by decide +kernel
theorem dX5_flips_68 : decode cX5_flips 68 = .ok (.iconst 4, 1) := by decide +kernel
theorem dX5_flips_69 : decode cX5_flips 69 = .ok (.iload 5, 2) := by decide +kernel
theorem dX5_flips_71 : decode cX5_flips 71 = .ok (.imul, 1) := by decide +kernel
theorem dX5_flips_72 : decode cX5_flips 72 = .ok (.iload 6, 2) := by decide +kernel
theorem dX5_flips_74 : decode cX5_flips 74 = .ok (.iadd, 1) := by decide +kernel
theorem dX5_flips_75 : decode cX5_flips 75 = .ok (.invokevirtual 51, 3) := by decide +kernel
theorem dX5_flips_78 : decode cX5_flips 78 = .ok (.aload_n 0, 1) := by decide +kernel
theorem dX5_flips_79 : decode cX5_flips 79 = .ok (.getfield 21, 3) := by decide +kernel
theorem dX5_flips_82 : decode cX5_flips 82 = .ok (.iload 5, 2) := by decide +kernel
theorem dX5_flips_84 : decode cX5_flips 84 = .ok (.iload 6, 2) := by decide +kernel
theorem dX5_flips_86 : decode cX5_flips 86 = .ok (.invokevirtual 44, 3) := by decide +kernel
theorem dX5_flips_89 : decode cX5_flips 89 = .ok (.iinc 6 1, 3) := by decide +kernel
theorem dX5_flips_92 : decode cX5_flips 92 = .ok (.goto (-50), 3) := by decide +kernel
theorem dX5_flips_95 : decode cX5_flips 95 = .ok (.iinc 5 1, 3) := by decide +kernel
theorem dX5_flips_98 : decode cX5_flips 98 = .ok (.goto (-66), 3) := by decide +kernel
theorem dX5_flips_101 : decode cX5_flips 101 = .ok (.return_, 1) := by decide +kernel
theorem dX5_turns_0 : decode cX5_turns 0 = .ok (.aload_n 0, 1) := by decide +kernel
theorem dX5_turns_1 : decode cX5_turns 1 = .ok (.aload_n 1, 1) := by decide +kernel
theorem dX5_turns_2 : decode cX5_turns 2 = .ok (.iload_n 2, 1) := by decide +kernel
theorem dX5_turns_3 : decode cX5_turns 3 = .ok (.invokevirtual 34, 3) := by decide +kernel
theorem dX5_turns_6 : decode cX5_turns 6 = .ok (.aload_n 0, 1) := by decide +kernel
theorem dX5_turns_7 : decode cX5_turns 7 = .ok (.getfield 30, 3) := by decide +kernel
theorem dX5_turns_10 : decode cX5_turns 10 = .ok (.getfield 38, 3) := by decide +kernel
theorem dX5_turns_13 : decode cX5_turns 13 = .ok (.ifCond .ne 7, 3) := by decide +kernel
theorem dX5_turns_16 : decode cX5_turns 16 = .ok (.iconst 0, 1) := by decide +kernel
theorem dX5_turns_17 : decode cX5_turns 17 = .ok (.goto 10, 3) := by decide +kernel
theorem dX5_turns_20 : decode cX5_turns 20 = .ok (.aload_n 0, 1) := by decide +kernel
theorem dX5_turns_21 : decode cX5_turns 21 = .ok (.getfield 21, 3) := by decide +kernel
theorem dX5_turns_24 : decode cX5_turns 24 = .ok (.getfield 41, 3) := by decide +kernel
theorem dX5_turns_27 : decode cX5_turns 27 = .ok (.istore 4, 2) := by decide +kernel
theorem dX5_turns_29 : decode cX5_turns 29 = .ok (.iconst 0, 1) := by decide +kernel
theorem dX5_turns_30 : decode cX5_turns 30 = .ok (.istore 5, 2) := by decide +kernel
theorem dX5_turns_32 : decode cX5_turns 32 = .ok (.iload 5, 2) := by decide +kernel
theorem dX5_turns_34 : decode cX5_turns 34 = .ok (.iload 4, 2) := by decide +kernel
theorem dX5_turns_36 : decode cX5_turns 36 = .ok (.if_icmp .ge 67, 3) := by decide +kernel
theorem dX5_turns_39 : decode cX5_turns 39 = .ok (.iconst 0, 1) := by decide +kernel
theorem dX5_turns_40 : decode cX5_turns 40 = .ok (.istore 6, 2) := by decide +kernel
theorem dX5_turns_42 : decode cX5_turns 42 = .ok (.iload 6, 2) := by decide +kernel
theorem dX5_turns_44 : decode cX5_turns 44 = .ok (.iload 4, 2) := by decide +kernel
theorem dX5_turns_46 : decode cX5_turns 46 = .ok (.if_icmp .ge 51, 3) := by decide +kernel
theorem dX5_turns_49 : decode cX5_turns 49 = .ok (.aload_n 0, 1) := by decide +kernel
theorem dX5_turns_50 : decode cX5_turns 50 = .ok (.getfield 21, 3) := by decide +kernel
theorem dX5_turns_53 : decode cX5_turns 53 = .ok (.iload 5, 2) := by decide +kernel
theorem dX5_turns_55 : decode cX5_turns 55 = .ok (.iload 6, 2) := by decide +kernel
theorem dX5_turns_57 : decode cX5_turns 57 = .ok (.invokevirtual 54, 3) := by decide +kernel
theorem dX5_turns_60 : decode cX5_turns 60 = .ok (.aload_n 0, 1) := by decide +kernel
theorem dX5_turns_61 : decode cX5_turns 61 = .ok (.getfield 30, 3) := by decide +kernel
theorem dX5_turns_64 : decode cX5_turns 64 = .ok (.invokevirtual 48, 3) := by decide +kernel
theorem dX5_turns_67 : decode cX5_turns 67 = .ok (.aload_n 0, 1) := by decide +kernel
theorem dX5_turns_68 : decode cX5_turns 68 = .ok (.iload_n 3, 1) := by decide +kernel
theorem dX5_turns_69 : decode cX5_turns 69 = .ok (.bipush 10, 2) := by decide +kernel
theorem dX5_turns_71 : decode cX5_turns 71 = .ok (.iload 5, 2) := by decide +kernel
theorem dX5_turns_73 : decode cX5_turns 73 = .ok (.imul, 1) := by decide +kernel
theorem dX5_turns_74 : decode cX5_turns 74 = .ok (.iload 6, 2) := by decide +kernel
theorem dX5_turns_76 : decode cX5_turns 76 = .ok (.iadd, 1) := by decide +kernel
theorem dX5_turns_77 : decode cX5_turns 77 = .ok (.invokevirtual 51, 3) := by decide +kernel
theorem dX5_turns_80 : decode cX5_turns 80 = .ok (.aload_n 0, 1) := by decide +kernel
theorem dX5_turns_81 : decode cX5_turns 81 = .ok (.getfield 21, 3) := by decide +kernel
theorem dX5_turns_84 : decode cX5_turns 84 = .ok (.iload 5, 2) := by decide +kernel
theorem dX5_turns_86 : decode cX5_turns 86 = .ok (.iload 6, 2) := by decide +kernel
theorem dX5_turns_88 : decode cX5_turns 88 = .ok (.invokevirtual 54, 3) := by decide +kernel
theorem dX5_turns_91 : decode cX5_turns 91 = .ok (.iinc 6 1, 3) := by decide +kernel
theorem dX5_turns_94 : decode cX5_turns 94 = .ok (.goto (-52), 3) := by decide +kernel
theorem dX5_turns_97 : decode cX5_turns 97 = .ok (.iinc 5 1, 3) := by decide +kernel
theorem dX5_turns_100 : decode cX5_turns 100 = .ok (.goto (-68), 3) := by decide +kernel
theorem dX5_turns_103 : decode cX5_turns 103 = .ok (.return_, 1) := by decide +kernel
theorem dX5_worldsIfFair_0 : decode cX5_worldsIfFair 0 = .ok (.aload_n 0, 1) := by decide +kernel
theorem dX5_worldsIfFair_1 : decode cX5_worldsIfFair 1 = .ok (.aload_n 1, 1) := by decide +kernel
theorem dX5_worldsIfFair_2 : decode cX5_worldsIfFair 2 = .ok (.iload_n 2, 1) := by decide +kernel
theorem dX5_worldsIfFair_3 : decode cX5_worldsIfFair 3 = .ok (.invokevirtual 34, 3) := by decide +kernel
theorem dX5_worldsIfFair_6 : decode cX5_worldsIfFair 6 = .ok (.aload_n 0, 1) := by decide +kernel
theorem dX5_worldsIfFair_7 : decode cX5_worldsIfFair 7 = .ok (.getfield 21, 3) := by decide +kernel
theorem dX5_worldsIfFair_10 : decode cX5_worldsIfFair 10 = .ok (.iload_n 3, 1) := by decide +kernel
theorem dX5_worldsIfFair_11 : decode cX5_worldsIfFair 11 = .ok (.putfield 57, 3) := by decide +kernel
theorem dX5_worldsIfFair_14 : decode cX5_worldsIfFair 14 = .ok (.aload_n 0, 1) := by decide +kernel
theorem dX5_worldsIfFair_15 : decode cX5_worldsIfFair 15 = .ok (.getfield 30, 3) := by decide +kernel
theorem dX5_worldsIfFair_18 : decode cX5_worldsIfFair 18 = .ok (.invokevirtual 48, 3) := by decide +kernel
theorem dX5_worldsIfFair_21 : decode cX5_worldsIfFair 21 = .ok (.aload_n 0, 1) := by decide +kernel
theorem dX5_worldsIfFair_22 : decode cX5_worldsIfFair 22 = .ok (.getfield 30, 3) := by decide +kernel
theorem dX5_worldsIfFair_25 : decode cX5_worldsIfFair 25 = .ok (.getfield 38, 3) := by decide +kernel
theorem dX5_worldsIfFair_28 : decode cX5_worldsIfFair 28 = .ok (.ifCond .ne 7, 3) := by decide +kernel
theorem dX5_worldsIfFair_31 : decode cX5_worldsIfFair 31 = .ok (.iconst (-1), 1) := by decide +kernel
theorem dX5_worldsIfFair_32 : decode cX5_worldsIfFair 32 = .ok (.goto 11, 3) := by decide +kernel
theorem dX5_worldsIfFair_35 : decode cX5_worldsIfFair 35 = .ok (.aload_n 0, 1) := by decide +kernel
theorem dX5_worldsIfFair_36 : decode cX5_worldsIfFair 36 = .ok (.getfield 30, 3) := by decide +kernel
theorem dX5_worldsIfFair_39 : decode cX5_worldsIfFair 39 = .ok (.iconst 0, 1) := by decide +kernel
theorem dX5_worldsIfFair_40 : decode cX5_worldsIfFair 40 = .ok (.invokevirtual 60, 3) := by decide +kernel
theorem dX5_worldsIfFair_43 : decode cX5_worldsIfFair 43 = .ok (.ireturn, 1) := by decide +kernel
theorem dX5_begin_0 : decode cX5_begin 0 = .ok (.aload_n 0, 1) := by decide +kernel
theorem dX5_begin_1 : decode cX5_begin 1 = .ok (.getfield 21, 3) := by decide +kernel
theorem dX5_begin_4 : decode cX5_begin 4 = .ok (.aload_n 1, 1) := by decide +kernel
theorem dX5_begin_5 : decode cX5_begin 5 = .ok (.invokevirtual 64, 3) := by decide +kernel
theorem dX5_begin_8 : decode cX5_begin 8 = .ok (.aload_n 0, 1) := by decide +kernel
theorem dX5_begin_9 : decode cX5_begin 9 = .ok (.getfield 30, 3) := by decide +kernel
theorem dX5_begin_12 : decode cX5_begin 12 = .ok (.iload_n 2, 1) := by decide +kernel
theorem dX5_begin_13 : decode cX5_begin 13 = .ok (.invokevirtual 67, 3) := by decide +kernel
theorem dX5_begin_16 : decode cX5_begin 16 = .ok (.aload_n 0, 1) := by decide +kernel
theorem dX5_begin_17 : decode cX5_begin 17 = .ok (.aload_n 0, 1) := by decide +kernel
theorem dX5_begin_18 : decode cX5_begin 18 = .ok (.getfield 30, 3) := by decide +kernel
theorem dX5_begin_21 : decode cX5_begin 21 = .ok (.getfield 38, 3) := by decide +kernel
theorem dX5_begin_24 : decode cX5_begin 24 = .ok (.ifCond .ne 7, 3) := by decide +kernel
theorem dX5_begin_27 : decode cX5_begin 27 = .ok (.iconst (-1), 1) := by decide +kernel
theorem dX5_begin_28 : decode cX5_begin 28 = .ok (.goto 4, 3) := by decide +kernel
theorem dX5_begin_31 : decode cX5_begin 31 = .ok (.iconst 0, 1) := by decide +kernel
theorem dX5_begin_32 : decode cX5_begin 32 = .ok (.putfield 9, 3) := by decide +kernel
theorem dX5_begin_35 : decode cX5_begin 35 = .ok (.aload_n 0, 1) := by decide +kernel
theorem dX5_begin_36 : decode cX5_begin 36 = .ok (.iconst (-1), 1) := by decide +kernel
theorem dX5_begin_37 : decode cX5_begin 37 = .ok (.putfield 15, 3) := by decide +kernel
theorem dX5_begin_40 : decode cX5_begin 40 = .ok (.return_, 1) := by decide +kernel
theorem dX5_note_0 : decode cX5_note 0 = .ok (.aload_n 0, 1) := by decide +kernel
theorem dX5_note_1 : decode cX5_note 1 = .ok (.getfield 30, 3) := by decide +kernel
theorem dX5_note_4 : decode cX5_note 4 = .ok (.iconst 0, 1) := by decide +kernel
theorem dX5_note_5 : decode cX5_note 5 = .ok (.invokevirtual 60, 3) := by decide +kernel
theorem dX5_note_8 : decode cX5_note 8 = .ok (.iload_n 1, 1) := by decide +kernel
theorem dX5_note_9 : decode cX5_note 9 = .ok (.ishr, 1) := by decide +kernel
theorem dX5_note_10 : decode cX5_note 10 = .ok (.iconst 1, 1) := by decide +kernel
theorem dX5_note_11 : decode cX5_note 11 = .ok (.iand, 1) := by decide +kernel
theorem dX5_note_12 : decode cX5_note 12 = .ok (.iconst 1, 1) := by decide +kernel
theorem dX5_note_13 : decode cX5_note 13 = .ok (.if_icmp .ne 26, 3) := by decide +kernel
theorem dX5_note_16 : decode cX5_note 16 = .ok (.aload_n 0, 1) := by decide +kernel
theorem dX5_note_17 : decode cX5_note 17 = .ok (.dup, 1) := by decide +kernel
theorem dX5_note_18 : decode cX5_note 18 = .ok (.getfield 9, 3) := by decide +kernel
theorem dX5_note_21 : decode cX5_note 21 = .ok (.iconst 1, 1) := by decide +kernel
theorem dX5_note_22 : decode cX5_note 22 = .ok (.iadd, 1) := by decide +kernel
theorem dX5_note_23 : decode cX5_note 23 = .ok (.putfield 9, 3) := by decide +kernel
theorem dX5_note_26 : decode cX5_note 26 = .ok (.aload_n 0, 1) := by decide +kernel
theorem dX5_note_27 : decode cX5_note 27 = .ok (.getfield 15, 3) := by decide +kernel
theorem dX5_note_30 : decode cX5_note 30 = .ok (.iconst (-1), 1) := by decide +kernel
theorem dX5_note_31 : decode cX5_note 31 = .ok (.if_icmp .ne 8, 3) := by decide +kernel
theorem dX5_note_34 : decode cX5_note 34 = .ok (.aload_n 0, 1) := by decide +kernel
theorem dX5_note_35 : decode cX5_note 35 = .ok (.iload_n 2, 1) := by decide +kernel
theorem dX5_note_36 : decode cX5_note 36 = .ok (.putfield 15, 3) := by decide +kernel
theorem dX5_note_39 : decode cX5_note 39 = .ok (.return_, 1) := by decide +kernel
theorem dX6_init_0 : decode cX6_init 0 = .ok (.aload_n 0, 1) := by decide +kernel
theorem dX6_init_1 : decode cX6_init 1 = .ok (.invokespecial 3, 3) := by decide +kernel
theorem dX6_init_4 : decode cX6_init 4 = .ok (.aload_n 0, 1) := by decide +kernel
theorem dX6_init_5 : decode cX6_init 5 = .ok (.bipush 111, 2) := by decide +kernel
theorem dX6_init_7 : decode cX6_init 7 = .ok (.newarray .int, 2) := by decide +kernel
theorem dX6_init_9 : decode cX6_init 9 = .ok (.putfield 9, 3) := by decide +kernel
theorem dX6_init_12 : decode cX6_init 12 = .ok (.aload_n 0, 1) := by decide +kernel
theorem dX6_init_13 : decode cX6_init 13 = .ok (.iconst 0, 1) := by decide +kernel
theorem dX6_init_14 : decode cX6_init 14 = .ok (.putfield 15, 3) := by decide +kernel
theorem dX6_init_17 : decode cX6_init 17 = .ok (.aload_n 0, 1) := by decide +kernel
theorem dX6_init_18 : decode cX6_init 18 = .ok (.bipush 11, 2) := by decide +kernel
theorem dX6_init_20 : decode cX6_init 20 = .ok (.newarray .int, 2) := by decide +kernel
theorem dX6_init_22 : decode cX6_init 22 = .ok (.putfield 19, 3) := by decide +kernel
theorem dX6_init_25 : decode cX6_init 25 = .ok (.aload_n 0, 1) := by decide +kernel
theorem dX6_init_26 : decode cX6_init 26 = .ok (.aload_n 1, 1) := by decide +kernel
theorem dX6_init_27 : decode cX6_init 27 = .ok (.putfield 22, 3) := by decide +kernel
theorem dX6_init_30 : decode cX6_init 30 = .ok (.aload_n 0, 1) := by decide +kernel
theorem dX6_init_31 : decode cX6_init 31 = .ok (.aload_n 1, 1) := by decide +kernel
theorem dX6_init_32 : decode cX6_init 32 = .ok (.getfield 26, 3) := by decide +kernel
theorem dX6_init_35 : decode cX6_init 35 = .ok (.putfield 32, 3) := by decide +kernel
theorem dX6_init_38 : decode cX6_init 38 = .ok (.return_, 1) := by decide +kernel
theorem dX6_at_0 : decode cX6_at 0 = .ok (.iload_n 1, 1) := by decide +kernel
theorem dX6_at_1 : decode cX6_at 1 = .ok (.ifCond .lt 20, 3) := by decide +kernel
theorem dX6_at_4 : decode cX6_at 4 = .ok (.iload_n 1, 1) := by decide +kernel
theorem dX6_at_5 : decode cX6_at 5 = .ok (.aload_n 0, 1) := by decide +kernel
theorem dX6_at_6 : decode cX6_at 6 = .ok (.getfield 15, 3) := by decide +kernel
theorem dX6_at_9 : decode cX6_at 9 = .ok (.if_icmp .ge 12, 3) := by decide +kernel
theorem dX6_at_12 : decode cX6_at 12 = .ok (.aload_n 0, 1) := by decide +kernel
theorem dX6_at_13 : decode cX6_at 13 = .ok (.getfield 9, 3) := by decide +kernel
theorem dX6_at_16 : decode cX6_at 16 = .ok (.iload_n 1, 1) := by decide +kernel
theorem dX6_at_17 : decode cX6_at 17 = .ok (.iaload, 1) := by decide +kernel
theorem dX6_at_18 : decode cX6_at 18 = .ok (.goto 4, 3) := by decide +kernel
theorem dX6_at_21 : decode cX6_at 21 = .ok (.iconst (-1), 1) := by decide +kernel
theorem dX6_at_22 : decode cX6_at 22 = .ok (.ireturn, 1) := by decide +kernel
theorem dX6_find_0 : decode cX6_find 0 = .ok (.aload_n 0, 1) := by decide +kernel
theorem dX6_find_1 : decode cX6_find 1 = .ok (.iconst 0, 1) := by decide +kernel
theorem dX6_find_2 : decode cX6_find 2 = .ok (.putfield 15, 3) := by decide +kernel
theorem dX6_find_5 : decode cX6_find 5 = .ok (.aload_n 0, 1) := by decide +kernel
theorem dX6_find_6 : decode cX6_find 6 = .ok (.getfield 22, 3) := by decide +kernel
theorem dX6_find_9 : decode cX6_find 9 = .ok (.iconst 0, 1) := by decide +kernel
theorem dX6_find_10 : decode cX6_find 10 = .ok (.invokevirtual 33, 3) := by decide +kernel
theorem dX6_find_13 : decode cX6_find 13 = .ok (.iload_n 1, 1) := by decide +kernel
theorem dX6_find_14 : decode cX6_find 14 = .ok (.invokestatic 37, 3) := by decide +kernel
theorem dX6_find_17 : decode cX6_find 17 = .ok (.istore_n 2, 1) := by decide +kernel
theorem dX6_find_18 : decode cX6_find 18 = .ok (.aload_n 0, 1) := by decide +kernel
theorem dX6_find_19 : decode cX6_find 19 = .ok (.getfield 22, 3) := by decide +kernel
theorem dX6_find_22 : decode cX6_find 22 = .ok (.iconst 1, 1) := by decide +kernel
theorem dX6_find_23 : decode cX6_find 23 = .ok (.invokevirtual 41, 3) := by decide +kernel
theorem dX6_find_26 : decode cX6_find 26 = .ok (.istore_n 3, 1) := by decide +kernel
theorem dX6_find_27 : decode cX6_find 27 = .ok (.aload_n 0, 1) := by decide +kernel
theorem dX6_find_28 : decode cX6_find 28 = .ok (.getfield 22, 3) := by decide +kernel
theorem dX6_find_31 : decode cX6_find 31 = .ok (.iconst 2, 1) := by decide +kernel
theorem dX6_find_32 : decode cX6_find 32 = .ok (.invokevirtual 33, 3) := by decide +kernel
theorem dX6_find_35 : decode cX6_find 35 = .ok (.istore 4, 2) := by decide +kernel
theorem dX6_find_37 : decode cX6_find 37 = .ok (.aload_n 0, 1) := by decide +kernel
theorem dX6_find_38 : decode cX6_find 38 = .ok (.getfield 22, 3) := by decide +kernel
theorem dX6_find_41 : decode cX6_find 41 = .ok (.aload_n 0, 1) := by decide +kernel
theorem dX6_find_42 : decode cX6_find 42 = .ok (.getfield 22, 3) := by decide +kernel
theorem dX6_find_45 : decode cX6_find 45 = .ok (.iconst 2, 1) := by decide +kernel
theorem dX6_find_46 : decode cX6_find 46 = .ok (.invokevirtual 45, 3) := by decide +kernel
theorem dX6_find_49 : decode cX6_find 49 = .ok (.invokevirtual 33, 3) := by decide +kernel
theorem dX6_find_52 : decode cX6_find 52 = .ok (.istore 5, 2) := by decide +kernel
theorem dX6_find_54 : decode cX6_find 54 = .ok (.aload_n 0, 1) := by decide +kernel
theorem dX6_find_55 : decode cX6_find 55 = .ok (.getfield 22, 3) := by decide +kernel
theorem dX6_find_58 : decode cX6_find 58 = .ok (.iconst 0, 1) := by decide +kernel
theorem dX6_find_59 : decode cX6_find 59 = .ok (.invokevirtual 41, 3) := by decide +kernel
theorem dX6_find_62 : decode cX6_find 62 = .ok (.bipush 69, 2) := by decide +kernel
theorem dX6_find_64 : decode cX6_find 64 = .ok (.if_icmp .ne 25, 3) := by decide +kernel
theorem dX6_find_67 : decode cX6_find 67 = .ok (.iload_n 2, 1) := by decide +kernel
theorem dX6_find_68 : decode cX6_find 68 = .ok (.ifCond .eq 21, 3) := by decide +kernel
theorem dX6_find_71 : decode cX6_find 71 = .ok (.aload_n 0, 1) := by decide +kernel
theorem dX6_find_72 : decode cX6_find 72 = .ok (.iload_n 1, 1) := by decide +kernel
theorem dX6_find_73 : decode cX6_find 73 = .ok (.invokevirtual 48, 3) := by decide +kernel
theorem dX6_find_76 : decode cX6_find 76 = .ok (.aload_n 0, 1) := by decide +kernel
theorem dX6_find_77 : decode cX6_find 77 = .ok (.iload_n 1, 1) := by decide +kernel
theorem dX6_find_78 : decode cX6_find 78 = .ok (.iload_n 3, 1) := by decide +kernel
theorem dX6_find_79 : decode cX6_find 79 = .ok (.iload 4, 2) := by decide +kernel
theorem dX6_find_81 : decode cX6_find 81 = .ok (.iload 5, 2) := by decide +kernel
theorem dX6_find_83 : decode cX6_find 83 = .ok (.invokevirtual 52, 3) := by decide +kernel
theorem dX6_find_86 : decode cX6_find 86 = .ok (.goto 55, 3) := by decide +kernel
theorem dX6_find_89 : decode cX6_find 89 = .ok (.aload_n 0, 1) := by decide +kernel
theorem dX6_find_90 : decode cX6_find 90 = .ok (.getfield 22, 3) := by decide +kernel
theorem dX6_find_93 : decode cX6_find 93 = .ok (.iconst 0, 1) := by decide +kernel
theorem dX6_find_94 : decode cX6_find 94 = .ok (.invokevirtual 41, 3) := by decide +kernel
theorem dX6_find_97 : decode cX6_find 97 = .ok (.bipush 65, 2) := by decide +kernel
theorem dX6_find_99 : decode cX6_find 99 = .ok (.if_icmp .ne 42, 3) := by decide +kernel
theorem dX6_find_102 : decode cX6_find 102 = .ok (.iload_n 2, 1) := by decide +kernel
theorem dX6_find_103 : decode cX6_find 103 = .ok (.ifCond .ne 38, 3) := by decide +kernel
theorem dX6_find_106 : decode cX6_find 106 = .ok (.aload_n 0, 1) := by decide +kernel
theorem dX6_find_107 : decode cX6_find 107 = .ok (.iload_n 1, 1) := by decide +kernel
theorem dX6_find_108 : decode cX6_find 108 = .ok (.invokevirtual 48, 3) := by decide +kernel
theorem dX6_find_111 : decode cX6_find 111 = .ok (.aload_n 0, 1) := by decide +kernel
theorem dX6_find_112 : decode cX6_find 112 = .ok (.iload_n 1, 1) := by decide +kernel
theorem dX6_find_113 : decode cX6_find 113 = .ok (.iload_n 3, 1) := by decide +kernel
theorem dX6_find_114 : decode cX6_find 114 = .ok (.aload_n 0, 1) := by decide +kernel
theorem dX6_find_115 : decode cX6_find 115 = .ok (.getfield 32, 3) := by decide +kernel
theorem dX6_find_118 : decode cX6_find 118 = .ok (.getfield 56, 3) := by decide +kernel
theorem dX6_find_121 : decode cX6_find 121 = .ok (.iload 4, 2) := by decide +kernel
theorem dX6_find_123 : decode cX6_find 123 = .ok (.iconst (-1), 1) := by decide +kernel
theorem dX6_find_124 : decode cX6_find 124 = .ok (.ixor, 1) := by decide +kernel
theorem dX6_find_125 : decode cX6_find 125 = .ok (.iand, 1) := by decide +kernel
theorem dX6_find_126 : decode cX6_find 126 = .ok (.aload_n 0, 1) := by decide +kernel
theorem dX6_find_127 : decode cX6_find 127 = .ok (.getfield 32, 3) := by decide +kernel
theorem dX6_find_130 : decode cX6_find 130 = .ok (.getfield 56, 3) := by decide +kernel
theorem dX6_find_133 : decode cX6_find 133 = .ok (.iload 5, 2) := by decide +kernel
theorem dX6_find_135 : decode cX6_find 135 = .ok (.iconst (-1), 1) := by decide +kernel
theorem dX6_find_136 : decode cX6_find 136 = .ok (.ixor, 1) := by decide +kernel
theorem dX6_find_137 : decode cX6_find 137 = .ok (.iand, 1) := by decide +kernel
theorem dX6_find_138 : decode cX6_find 138 = .ok (.invokevirtual 61, 3) := by decide +kernel
theorem dX6_find_141 : decode cX6_find 141 = .ok (.return_, 1) := by decide +kernel
theorem dX6_go_0 : decode cX6_go 0 = .ok (.iload_n 2, 1) := by decide +kernel
theorem dX6_go_1 : decode cX6_go 1 = .ok (.lookupswitch 69 #[(70, 44), (71, 60), (88, 35)], 35) := by decide +kernel
theorem dX6_go_36 : decode cX6_go 36 = .ok (.aload_n 0, 1) := by decide +kernel
theorem dX6_go_37 : decode cX6_go 37 = .ok (.iload_n 1, 1) := by decide +kernel
theorem dX6_go_38 : decode cX6_go 38 = .ok (.iload_n 3, 1) := by decide +kernel
theorem dX6_go_39 : decode cX6_go 39 = .ok (.invokevirtual 64, 3) := by decide +kernel
theorem dX6_go_42 : decode cX6_go 42 = .ok (.goto 36, 3) := by decide +kernel
theorem dX6_go_45 : decode cX6_go 45 = .ok (.aload_n 0, 1) := by decide +kernel
theorem dX6_go_46 : decode cX6_go 46 = .ok (.iload_n 1, 1) := by decide +kernel
theorem dX6_go_47 : decode cX6_go 47 = .ok (.aload_n 0, 1) := by decide +kernel
theorem dX6_go_48 : decode cX6_go 48 = .ok (.getfield 32, 3) := by decide +kernel
theorem dX6_go_51 : decode cX6_go 51 = .ok (.getfield 56, 3) := by decide +kernel
theorem dX6_go_54 : decode cX6_go 54 = .ok (.iload_n 3, 1) := by decide +kernel
theorem dX6_go_55 : decode cX6_go 55 = .ok (.invokevirtual 68, 3) := by decide +kernel
theorem dX6_go_58 : decode cX6_go 58 = .ok (.goto 20, 3) := by decide +kernel
theorem dX6_go_61 : decode cX6_go 61 = .ok (.aload_n 0, 1) := by decide +kernel
theorem dX6_go_62 : decode cX6_go 62 = .ok (.iload_n 1, 1) := by decide +kernel
theorem dX6_go_63 : decode cX6_go 63 = .ok (.iload_n 3, 1) := by decide +kernel
theorem dX6_go_64 : decode cX6_go 64 = .ok (.invokevirtual 72, 3) := by decide +kernel
theorem dX6_go_67 : decode cX6_go 67 = .ok (.goto 11, 3) := by decide +kernel
theorem dX6_go_70 : decode cX6_go 70 = .ok (.aload_n 0, 1) := by decide +kernel
theorem dX6_go_71 : decode cX6_go 71 = .ok (.iload_n 1, 1) := by decide +kernel
theorem dX6_go_72 : decode cX6_go 72 = .ok (.iload_n 3, 1) := by decide +kernel
theorem dX6_go_73 : decode cX6_go 73 = .ok (.iload 4, 2) := by decide +kernel
theorem dX6_go_75 : decode cX6_go 75 = .ok (.invokevirtual 68, 3) := by decide +kernel
theorem dX6_go_78 : decode cX6_go 78 = .ok (.return_, 1) := by decide +kernel
theorem dX6_goAgainst_0 : decode cX6_goAgainst 0 = .ok (.iload_n 2, 1) := by decide +kernel
theorem dX6_goAgainst_1 : decode cX6_goAgainst 1 = .ok (.lookupswitch 69 #[(70, 44), (71, 53), (88, 35)], 35) := by decide +kernel
theorem dX6_goAgainst_36 : decode cX6_goAgainst 36 = .ok (.aload_n 0, 1) := by decide +kernel
theorem dX6_goAgainst_37 : decode cX6_goAgainst 37 = .ok (.iload_n 1, 1) := by decide +kernel
theorem dX6_goAgainst_38 : decode cX6_goAgainst 38 = .ok (.iload_n 3, 1) := by decide +kernel
theorem dX6_goAgainst_39 : decode cX6_goAgainst 39 = .ok (.invokevirtual 64, 3) := by decide +kernel
theorem dX6_goAgainst_42 : decode cX6_goAgainst 42 = .ok (.goto 69, 3) := by decide +kernel
theorem dX6_goAgainst_45 : decode cX6_goAgainst 45 = .ok (.aload_n 0, 1) := by decide +kernel
theorem dX6_goAgainst_46 : decode cX6_goAgainst 46 = .ok (.iload_n 1, 1) := by decide +kernel
theorem dX6_goAgainst_47 : decode cX6_goAgainst 47 = .ok (.iload_n 3, 1) := by decide +kernel
theorem dX6_goAgainst_48 : decode cX6_goAgainst 48 = .ok (.invokevirtual 72, 3) := by decide +kernel
theorem dX6_goAgainst_51 : decode cX6_goAgainst 51 = .ok (.goto 60, 3) := by decide +kernel
theorem dX6_goAgainst_54 : decode cX6_goAgainst 54 = .ok (.aload_n 0, 1) := by decide +kernel
theorem dX6_goAgainst_55 : decode cX6_goAgainst 55 = .ok (.iload_n 1, 1) := by decide +kernel
theorem dX6_goAgainst_56 : decode cX6_goAgainst 56 = .ok (.aload_n 0, 1) := by decide +kernel
theorem dX6_goAgainst_57 : decode cX6_goAgainst 57 = .ok (.getfield 32, 3) := by decide +kernel
theorem dX6_goAgainst_60 : decode cX6_goAgainst 60 = .ok (.getfield 56, 3) := by decide +kernel
theorem dX6_goAgainst_63 : decode cX6_goAgainst 63 = .ok (.iload_n 3, 1) := by decide +kernel
theorem dX6_goAgainst_64 : decode cX6_goAgainst 64 = .ok (.invokevirtual 68, 3) := by decide +kernel
theorem dX6_goAgainst_67 : decode cX6_goAgainst 67 = .ok (.goto 44, 3) := by decide +kernel
theorem dX6_goAgainst_70 : decode cX6_goAgainst 70 = .ok (.aload_n 0, 1) := by decide +kernel
theorem dX6_goAgainst_71 : decode cX6_goAgainst 71 = .ok (.getfield 32, 3) := by decide +kernel
theorem dX6_goAgainst_74 : decode cX6_goAgainst 74 = .ok (.iload 4, 2) := by decide +kernel
theorem dX6_goAgainst_76 : decode cX6_goAgainst 76 = .ok (.iload 4, 2) := by decide +kernel
theorem dX6_goAgainst_78 : decode cX6_goAgainst 78 = .ok (.iload_n 3, 1) := by decide +kernel
theorem dX6_goAgainst_79 : decode cX6_goAgainst 79 = .ok (.iand, 1) := by decide +kernel
theorem dX6_goAgainst_80 : decode cX6_goAgainst 80 = .ok (.invokevirtual 75, 3) := by decide +kernel
theorem dX6_goAgainst_83 : decode cX6_goAgainst 83 = .ok (.iload_n 1, 1) := by decide +kernel
theorem dX6_goAgainst_84 : decode cX6_goAgainst 84 = .ok (.invokestatic 37, 3) := by decide +kernel
theorem dX6_goAgainst_87 : decode cX6_goAgainst 87 = .ok (.ifCond .eq 17, 3) := by decide +kernel
theorem dX6_goAgainst_90 : decode cX6_goAgainst 90 = .ok (.aload_n 0, 1) := by decide +kernel
theorem dX6_goAgainst_91 : decode cX6_goAgainst 91 = .ok (.iload_n 1, 1) := by decide +kernel
theorem dX6_goAgainst_92 : decode cX6_goAgainst 92 = .ok (.iload 4, 2) := by decide +kernel
theorem dX6_goAgainst_94 : decode cX6_goAgainst 94 = .ok (.iload 4, 2) := by decide +kernel
theorem dX6_goAgainst_96 : decode cX6_goAgainst 96 = .ok (.iload_n 3, 1) := by decide +kernel
theorem dX6_goAgainst_97 : decode cX6_goAgainst 97 = .ok (.iand, 1) := by decide +kernel
theorem dX6_goAgainst_98 : decode cX6_goAgainst 98 = .ok (.invokevirtual 68, 3) := by decide +kernel
theorem dX6_goAgainst_101 : decode cX6_goAgainst 101 = .ok (.goto 10, 3) := by decide +kernel
theorem dX6_goAgainst_104 : decode cX6_goAgainst 104 = .ok (.aload_n 0, 1) := by decide +kernel
theorem dX6_goAgainst_105 : decode cX6_goAgainst 105 = .ok (.iload_n 1, 1) := by decide +kernel
theorem dX6_goAgainst_106 : decode cX6_goAgainst 106 = .ok (.iload 4, 2) := by decide +kernel
theorem dX6_goAgainst_108 : decode cX6_goAgainst 108 = .ok (.invokevirtual 72, 3) := by decide +kernel
theorem dX6_goAgainst_111 : decode cX6_goAgainst 111 = .ok (.return_, 1) := by decide +kernel
theorem dX6_goNext_0 : decode cX6_goNext 0 = .ok (.aload_n 0, 1) := by decide +kernel
theorem dX6_goNext_1 : decode cX6_goNext 1 = .ok (.aload_n 0, 1) := by decide +kernel
theorem dX6_goNext_2 : decode cX6_goNext 2 = .ok (.getfield 32, 3) := by decide +kernel
theorem dX6_goNext_5 : decode cX6_goNext 5 = .ok (.getfield 79, 3) := by decide +kernel
theorem dX6_goNext_8 : decode cX6_goNext 8 = .ok (.iload_n 1, 1) := by decide +kernel
theorem dX6_goNext_9 : decode cX6_goNext 9 = .ok (.invokevirtual 83, 3) := by decide +kernel
theorem dX6_goNext_12 : decode cX6_goNext 12 = .ok (.iload_n 2, 1) := by decide +kernel
theorem dX6_goNext_13 : decode cX6_goNext 13 = .ok (.iand, 1) := by decide +kernel
theorem dX6_goNext_14 : decode cX6_goNext 14 = .ok (.aload_n 0, 1) := by decide +kernel
theorem dX6_goNext_15 : decode cX6_goNext 15 = .ok (.getfield 32, 3) := by decide +kernel
theorem dX6_goNext_18 : decode cX6_goNext 18 = .ok (.getfield 88, 3) := by decide +kernel
theorem dX6_goNext_21 : decode cX6_goNext 21 = .ok (.iand, 1) := by decide +kernel
theorem dX6_goNext_22 : decode cX6_goNext 22 = .ok (.invokestatic 91, 3) := by decide +kernel
theorem dX6_goNext_25 : decode cX6_goNext 25 = .ok (.invokevirtual 48, 3) := by decide +kernel
theorem dX6_goNext_28 : decode cX6_goNext 28 = .ok (.return_, 1) := by decide +kernel
theorem dX6_goUntil_0 : decode cX6_goUntil 0 = .ok (.iload_n 3, 1) := by decide +kernel
theorem dX6_goUntil_1 : decode cX6_goUntil 1 = .ok (.aload_n 0, 1) := by decide +kernel
theorem dX6_goUntil_2 : decode cX6_goUntil 2 = .ok (.getfield 32, 3) := by decide +kernel
theorem dX6_goUntil_5 : decode cX6_goUntil 5 = .ok (.getfield 88, 3) := by decide +kernel
theorem dX6_goUntil_8 : decode cX6_goUntil 8 = .ok (.iand, 1) := by decide +kernel
theorem dX6_goUntil_9 : decode cX6_goUntil 9 = .ok (.istore 4, 2) := by decide +kernel
theorem dX6_goUntil_11 : decode cX6_goUntil 11 = .ok (.iload 4, 2) := by decide +kernel
theorem dX6_goUntil_13 : decode cX6_goUntil 13 = .ok (.iload_n 1, 1) := by decide +kernel
theorem dX6_goUntil_14 : decode cX6_goUntil 14 = .ok (.invokestatic 37, 3) := by decide +kernel
theorem dX6_goUntil_17 : decode cX6_goUntil 17 = .ok (.ifCond .ne 16, 3) := by decide +kernel
theorem dX6_goUntil_20 : decode cX6_goUntil 20 = .ok (.aload_n 0, 1) := by decide +kernel
theorem dX6_goUntil_21 : decode cX6_goUntil 21 = .ok (.iload_n 2, 1) := by decide +kernel
theorem dX6_goUntil_22 : decode cX6_goUntil 22 = .ok (.iload 4, 2) := by decide +kernel
theorem dX6_goUntil_24 : decode cX6_goUntil 24 = .ok (.invokevirtual 94, 3) := by decide +kernel
theorem dX6_goUntil_27 : decode cX6_goUntil 27 = .ok (.aload_n 0, 1) := by decide +kernel
theorem dX6_goUntil_28 : decode cX6_goUntil 28 = .ok (.iload_n 1, 1) := by decide +kernel
theorem dX6_goUntil_29 : decode cX6_goUntil 29 = .ok (.invokevirtual 97, 3) := by decide +kernel
theorem dX6_goUntil_32 : decode cX6_goUntil 32 = .ok (.pop, 1) := by decide +kernel
theorem dX6_goUntil_33 : decode cX6_goUntil 33 = .ok (.return_, 1) := by decide +kernel
theorem dX6_goAround_0 : decode cX6_goAround 0 = .ok (.aload_n 0, 1) := by decide +kernel
theorem dX6_goAround_1 : decode cX6_goAround 1 = .ok (.getfield 32, 3) := by decide +kernel
theorem dX6_goAround_4 : decode cX6_goAround 4 = .ok (.iload_n 2, 1) := by decide +kernel
theorem dX6_goAround_5 : decode cX6_goAround 5 = .ok (.invokevirtual 100, 3) := by decide +kernel
theorem dX6_goAround_8 : decode cX6_goAround 8 = .ok (.istore_n 3, 1) := by decide +kernel
theorem dX6_goAround_9 : decode cX6_goAround 9 = .ok (.aload_n 0, 1) := by decide +kernel
theorem dX6_goAround_10 : decode cX6_goAround 10 = .ok (.iload_n 3, 1) := by decide +kernel
theorem dX6_goAround_11 : decode cX6_goAround 11 = .ok (.iload_n 3, 1) := by decide +kernel
theorem dX6_goAround_12 : decode cX6_goAround 12 = .ok (.aload_n 0, 1) := by decide +kernel
theorem dX6_goAround_13 : decode cX6_goAround 13 = .ok (.getfield 32, 3) := by decide +kernel
theorem dX6_goAround_16 : decode cX6_goAround 16 = .ok (.getfield 103, 3) := by decide +kernel
theorem dX6_goAround_19 : decode cX6_goAround 19 = .ok (.iand, 1) := by decide +kernel
theorem dX6_goAround_20 : decode cX6_goAround 20 = .ok (.invokevirtual 94, 3) := by decide +kernel
theorem dX6_goAround_23 : decode cX6_goAround 23 = .ok (.iload_n 1, 1) := by decide +kernel
theorem dX6_goAround_24 : decode cX6_goAround 24 = .ok (.istore 4, 2) := by decide +kernel
theorem dX6_goAround_26 : decode cX6_goAround 26 = .ok (.iconst 0, 1) := by decide +kernel
theorem dX6_goAround_27 : decode cX6_goAround 27 = .ok (.istore 5, 2) := by decide +kernel
theorem dX6_goAround_29 : decode cX6_goAround 29 = .ok (.iconst 0, 1) := by decide +kernel
theorem dX6_goAround_30 : decode cX6_goAround 30 = .ok (.istore 6, 2) := by decide +kernel
theorem dX6_goAround_32 : decode cX6_goAround 32 = .ok (.iload 6, 2) := by decide +kernel
theorem dX6_goAround_34 : decode cX6_goAround 34 = .ok (.bipush 10, 2) := by decide +kernel
theorem dX6_goAround_36 : decode cX6_goAround 36 = .ok (.if_icmp .gt 43, 3) := by decide +kernel
theorem dX6_goAround_39 : decode cX6_goAround 39 = .ok (.aload_n 0, 1) := by decide +kernel
theorem dX6_goAround_40 : decode cX6_goAround 40 = .ok (.iload 4, 2) := by decide +kernel
theorem dX6_goAround_42 : decode cX6_goAround 42 = .ok (.invokevirtual 97, 3) := by decide +kernel
theorem dX6_goAround_45 : decode cX6_goAround 45 = .ok (.istore 4, 2) := by decide +kernel
theorem dX6_goAround_47 : decode cX6_goAround 47 = .ok (.iload 4, 2) := by decide +kernel
theorem dX6_goAround_49 : decode cX6_goAround 49 = .ok (.iconst (-1), 1) := by decide +kernel
theorem dX6_goAround_50 : decode cX6_goAround 50 = .ok (.if_icmp .eq 13, 3) := by decide +kernel
theorem dX6_goAround_53 : decode cX6_goAround 53 = .ok (.iload 5, 2) := by decide +kernel
theorem dX6_goAround_55 : decode cX6_goAround 55 = .ok (.iload 4, 2) := by decide +kernel
theorem dX6_goAround_57 : decode cX6_goAround 57 = .ok (.invokestatic 37, 3) := by decide +kernel
theorem dX6_goAround_60 : decode cX6_goAround 60 = .ok (.ifCond .eq 4, 3) := by decide +kernel
theorem dX6_goAround_63 : decode cX6_goAround 63 = .ok (.return_, 1) := by decide +kernel
theorem dX6_goAround_64 : decode cX6_goAround 64 = .ok (.iload 5, 2) := by decide +kernel
theorem dX6_goAround_66 : decode cX6_goAround 66 = .ok (.iconst 1, 1) := by decide +kernel
theorem dX6_goAround_67 : decode cX6_goAround 67 = .ok (.iload 4, 2) := by decide +kernel
theorem dX6_goAround_69 : decode cX6_goAround 69 = .ok (.ishl, 1) := by decide +kernel
theorem dX6_goAround_70 : decode cX6_goAround 70 = .ok (.ior, 1) := by decide +kernel
theorem dX6_goAround_71 : decode cX6_goAround 71 = .ok (.istore 5, 2) := by decide +kernel
theorem dX6_goAround_73 : decode cX6_goAround 73 = .ok (.iinc 6 1, 3) := by decide +kernel
theorem dX6_goAround_76 : decode cX6_goAround 76 = .ok (.goto (-44), 3) := by decide +kernel
theorem dX6_goAround_79 : decode cX6_goAround 79 = .ok (.return_, 1) := by decide +kernel
theorem dX6_layOut_0 : decode cX6_layOut 0 = .ok (.iload_n 2, 1) := by decide +kernel
theorem dX6_layOut_1 : decode cX6_layOut 1 = .ok (.istore_n 3, 1) := by decide +kernel
theorem dX6_layOut_2 : decode cX6_layOut 2 = .ok (.iconst 0, 1) := by decide +kernel
theorem dX6_layOut_3 : decode cX6_layOut 3 = .ok (.istore 4, 2) := by decide +kernel
theorem dX6_layOut_5 : decode cX6_layOut 5 = .ok (.iload 4, 2) := by decide +kernel
theorem dX6_layOut_7 : decode cX6_layOut 7 = .ok (.bipush 10, 2) := by decide +kernel
theorem dX6_layOut_9 : decode cX6_layOut 9 = .ok (.if_icmp .gt 33, 3) := by decide +kernel
theorem dX6_layOut_12 : decode cX6_layOut 12 = .ok (.aload_n 0, 1) := by decide +kernel
theorem dX6_layOut_13 : decode cX6_layOut 13 = .ok (.getfield 19, 3) := by decide +kernel
theorem dX6_layOut_16 : decode cX6_layOut 16 = .ok (.iload 4, 2) := by decide +kernel
theorem dX6_layOut_18 : decode cX6_layOut 18 = .ok (.iload_n 3, 1) := by decide +kernel
theorem dX6_layOut_19 : decode cX6_layOut 19 = .ok (.iastore, 1) := by decide +kernel
theorem dX6_layOut_20 : decode cX6_layOut 20 = .ok (.iload_n 3, 1) := by decide +kernel
theorem dX6_layOut_21 : decode cX6_layOut 21 = .ok (.iload_n 1, 1) := by decide +kernel
theorem dX6_layOut_22 : decode cX6_layOut 22 = .ok (.aload_n 0, 1) := by decide +kernel
theorem dX6_layOut_23 : decode cX6_layOut 23 = .ok (.getfield 32, 3) := by decide +kernel
theorem dX6_layOut_26 : decode cX6_layOut 26 = .ok (.getfield 79, 3) := by decide +kernel
theorem dX6_layOut_29 : decode cX6_layOut 29 = .ok (.iload_n 3, 1) := by decide +kernel
theorem dX6_layOut_30 : decode cX6_layOut 30 = .ok (.invokevirtual 106, 3) := by decide +kernel
theorem dX6_layOut_33 : decode cX6_layOut 33 = .ok (.iand, 1) := by decide +kernel
theorem dX6_layOut_34 : decode cX6_layOut 34 = .ok (.ior, 1) := by decide +kernel
theorem dX6_layOut_35 : decode cX6_layOut 35 = .ok (.istore_n 3, 1) := by decide +kernel
theorem dX6_layOut_36 : decode cX6_layOut 36 = .ok (.iinc 4 1, 3) := by decide +kernel
theorem dX6_layOut_39 : decode cX6_layOut 39 = .ok (.goto (-34), 3) := by decide +kernel
theorem dX6_layOut_42 : decode cX6_layOut 42 = .ok (.return_, 1) := by decide +kernel
theorem dX6_walk_0 : decode cX6_walk 0 = .ok (.aload_n 0, 1) := by decide +kernel
theorem dX6_walk_1 : decode cX6_walk 1 = .ok (.aload_n 0, 1) := by decide +kernel
theorem dX6_walk_2 : decode cX6_walk 2 = .ok (.getfield 32, 3) := by decide +kernel
theorem dX6_walk_5 : decode cX6_walk 5 = .ok (.getfield 79, 3) := by decide +kernel
theorem dX6_walk_8 : decode cX6_walk 8 = .ok (.iload_n 1, 1) := by decide +kernel
theorem dX6_walk_9 : decode cX6_walk 9 = .ok (.invokevirtual 83, 3) := by decide +kernel
theorem dX6_walk_12 : decode cX6_walk 12 = .ok (.invokevirtual 109, 3) := by decide +kernel
theorem dX6_walk_15 : decode cX6_walk 15 = .ok (.istore_n 2, 1) := by decide +kernel
theorem dX6_walk_16 : decode cX6_walk 16 = .ok (.iload_n 1, 1) := by decide +kernel
theorem dX6_walk_17 : decode cX6_walk 17 = .ok (.istore_n 3, 1) := by decide +kernel
theorem dX6_walk_18 : decode cX6_walk 18 = .ok (.iload_n 2, 1) := by decide +kernel
theorem dX6_walk_19 : decode cX6_walk 19 = .ok (.istore 4, 2) := by decide +kernel
theorem dX6_walk_21 : decode cX6_walk 21 = .ok (.iload 4, 2) := by decide +kernel
theorem dX6_walk_23 : decode cX6_walk 23 = .ok (.ifCond .lt 37, 3) := by decide +kernel
theorem dX6_walk_26 : decode cX6_walk 26 = .ok (.aload_n 0, 1) := by decide +kernel
theorem dX6_walk_27 : decode cX6_walk 27 = .ok (.getfield 32, 3) := by decide +kernel
theorem dX6_walk_30 : decode cX6_walk 30 = .ok (.getfield 79, 3) := by decide +kernel
theorem dX6_walk_33 : decode cX6_walk 33 = .ok (.iload_n 3, 1) := by decide +kernel
theorem dX6_walk_34 : decode cX6_walk 34 = .ok (.invokevirtual 83, 3) := by decide +kernel
theorem dX6_walk_37 : decode cX6_walk 37 = .ok (.aload_n 0, 1) := by decide +kernel
theorem dX6_walk_38 : decode cX6_walk 38 = .ok (.getfield 19, 3) := by decide +kernel
theorem dX6_walk_41 : decode cX6_walk 41 = .ok (.iload 4, 2) := by decide +kernel
theorem dX6_walk_43 : decode cX6_walk 43 = .ok (.iaload, 1) := by decide +kernel
theorem dX6_walk_44 : decode cX6_walk 44 = .ok (.iand, 1) := by decide +kernel
theorem dX6_walk_45 : decode cX6_walk 45 = .ok (.invokestatic 91, 3) := by decide +kernel
theorem dX6_walk_48 : decode cX6_walk 48 = .ok (.istore_n 3, 1) := by decide +kernel
theorem dX6_walk_49 : decode cX6_walk 49 = .ok (.aload_n 0, 1) := by decide +kernel
theorem dX6_walk_50 : decode cX6_walk 50 = .ok (.iload_n 3, 1) := by decide +kernel
theorem dX6_walk_51 : decode cX6_walk 51 = .ok (.invokevirtual 48, 3) := by decide +kernel
theorem dX6_walk_54 : decode cX6_walk 54 = .ok (.iinc 4 (-1), 3) := by decide +kernel
theorem dX6_walk_57 : decode cX6_walk 57 = .ok (.goto (-36), 3) := by decide +kernel
theorem dX6_walk_60 : decode cX6_walk 60 = .ok (.iload_n 2, 1) := by decide +kernel
theorem dX6_walk_61 : decode cX6_walk 61 = .ok (.iconst (-1), 1) := by decide +kernel
theorem dX6_walk_62 : decode cX6_walk 62 = .ok (.if_icmp .ne 7, 3) := by decide +kernel
theorem dX6_walk_65 : decode cX6_walk 65 = .ok (.iconst (-1), 1) := by decide +kernel
theorem dX6_walk_66 : decode cX6_walk 66 = .ok (.goto 4, 3) := by decide +kernel
theorem dX6_walk_69 : decode cX6_walk 69 = .ok (.iload_n 3, 1) := by decide +kernel
theorem dX6_walk_70 : decode cX6_walk 70 = .ok (.ireturn, 1) := by decide +kernel
theorem dX6_nearestLayer_0 : decode cX6_nearestLayer 0 = .ok (.iconst 0, 1) := by decide +kernel
theorem dX6_nearestLayer_1 : decode cX6_nearestLayer 1 = .ok (.istore_n 2, 1) := by decide +kernel
theorem dX6_nearestLayer_2 : decode cX6_nearestLayer 2 = .ok (.iload_n 2, 1) := by decide +kernel
theorem dX6_nearestLayer_3 : decode cX6_nearestLayer 3 = .ok (.bipush 10, 2) := by decide +kernel
theorem dX6_nearestLayer_5 : decode cX6_nearestLayer 5 = .ok (.if_icmp .gt 22, 3) := by decide +kernel
theorem dX6_nearestLayer_8 : decode cX6_nearestLayer 8 = .ok (.iload_n 1, 1) := by decide +kernel
theorem dX6_nearestLayer_9 : decode cX6_nearestLayer 9 = .ok (.aload_n 0, 1) := by decide +kernel
theorem dX6_nearestLayer_10 : decode cX6_nearestLayer 10 = .ok (.getfield 19, 3) := by decide +kernel
theorem dX6_nearestLayer_13 : decode cX6_nearestLayer 13 = .ok (.iload_n 2, 1) := by decide +kernel
theorem dX6_nearestLayer_14 : decode cX6_nearestLayer 14 = .ok (.iaload, 1) := by decide +kernel
theorem dX6_nearestLayer_15 : decode cX6_nearestLayer 15 = .ok (.iand, 1) := by decide +kernel
theorem dX6_nearestLayer_16 : decode cX6_nearestLayer 16 = .ok (.ifCond .eq 5, 3) := by decide +kernel
theorem dX6_nearestLayer_19 : decode cX6_nearestLayer 19 = .ok (.iload_n 2, 1) := by decide +kernel
theorem dX6_nearestLayer_20 : decode cX6_nearestLayer 20 = .ok (.ireturn, 1) := by decide +kernel
theorem dX6_nearestLayer_21 : decode cX6_nearestLayer 21 = .ok (.iinc 2 1, 3) := by decide +kernel
theorem dX6_nearestLayer_24 : decode cX6_nearestLayer 24 = .ok (.goto (-22), 3) := by decide +kernel
theorem dX6_nearestLayer_27 : decode cX6_nearestLayer 27 = .ok (.iconst (-1), 1) := by decide +kernel
theorem dX6_nearestLayer_28 : decode cX6_nearestLayer 28 = .ok (.ireturn, 1) := by decide +kernel
theorem dX6_put_0 : decode cX6_put 0 = .ok (.iload_n 1, 1) := by decide +kernel
theorem dX6_put_1 : decode cX6_put 1 = .ok (.iconst (-1), 1) := by decide +kernel
theorem dX6_put_2 : decode cX6_put 2 = .ok (.if_icmp .eq 32, 3) := by decide +kernel
theorem dX6_put_5 : decode cX6_put 5 = .ok (.aload_n 0, 1) := by decide +kernel
theorem dX6_put_6 : decode cX6_put 6 = .ok (.getfield 15, 3) := by decide +kernel
theorem dX6_put_9 : decode cX6_put 9 = .ok (.bipush 111, 2) := by decide +kernel
theorem dX6_put_11 : decode cX6_put 11 = .ok (.if_icmp .ge 23, 3) := by decide +kernel
theorem dX6_put_14 : decode cX6_put 14 = .ok (.aload_n 0, 1) := by decide +kernel
theorem dX6_put_15 : decode cX6_put 15 = .ok (.getfield 9, 3) := by decide +kernel
theorem dX6_put_18 : decode cX6_put 18 = .ok (.aload_n 0, 1) := by decide +kernel
theorem dX6_put_19 : decode cX6_put 19 = .ok (.getfield 15, 3) := by decide +kernel
theorem dX6_put_22 : decode cX6_put 22 = .ok (.iload_n 1, 1) := by decide +kernel
theorem dX6_put_23 : decode cX6_put 23 = .ok (.iastore, 1) := by decide +kernel
theorem dX6_put_24 : decode cX6_put 24 = .ok (.aload_n 0, 1) := by decide +kernel
theorem dX6_put_25 : decode cX6_put 25 = .ok (.dup, 1) := by decide +kernel
theorem dX6_put_26 : decode cX6_put 26 = .ok (.getfield 15, 3) := by decide +kernel
theorem dX6_put_29 : decode cX6_put 29 = .ok (.iconst 1, 1) := by decide +kernel
theorem dX6_put_30 : decode cX6_put 30 = .ok (.iadd, 1) := by decide +kernel
theorem dX6_put_31 : decode cX6_put 31 = .ok (.putfield 15, 3) := by decide +kernel
theorem dX6_put_34 : decode cX6_put 34 = .ok (.return_, 1) := by decide +kernel
theorem dX6_has_0 : decode cX6_has 0 = .ok (.iload_n 1, 1) := by decide +kernel
theorem dX6_has_1 : decode cX6_has 1 = .ok (.ifCond .lt 16, 3) := by decide +kernel
theorem dX6_has_4 : decode cX6_has 4 = .ok (.iload_n 0, 1) := by decide +kernel
theorem dX6_has_5 : decode cX6_has 5 = .ok (.iload_n 1, 1) := by decide +kernel
theorem dX6_has_6 : decode cX6_has 6 = .ok (.ishr, 1) := by decide +kernel
theorem dX6_has_7 : decode cX6_has 7 = .ok (.iconst 1, 1) := by decide +kernel
theorem dX6_has_8 : decode cX6_has 8 = .ok (.iand, 1) := by decide +kernel
theorem dX6_has_9 : decode cX6_has 9 = .ok (.iconst 1, 1) := by decide +kernel
theorem dX6_has_10 : decode cX6_has 10 = .ok (.if_icmp .ne 7, 3) := by decide +kernel
theorem dX6_has_13 : decode cX6_has 13 = .ok (.iconst 1, 1) := by decide +kernel
theorem dX6_has_14 : decode cX6_has 14 = .ok (.goto 4, 3) := by decide +kernel
theorem dX6_has_17 : decode cX6_has 17 = .ok (.iconst 0, 1) := by decide +kernel
theorem dX6_has_18 : decode cX6_has 18 = .ok (.ireturn, 1) := by decide +kernel
theorem dX6_lowest_0 : decode cX6_lowest 0 = .ok (.iconst 0, 1) := by decide +kernel
theorem dX6_lowest_1 : decode cX6_lowest 1 = .ok (.istore_n 1, 1) := by decide +kernel
theorem dX6_lowest_2 : decode cX6_lowest 2 = .ok (.iload_n 1, 1) := by decide +kernel
theorem dX6_lowest_3 : decode cX6_lowest 3 = .ok (.bipush 10, 2) := by decide +kernel
theorem dX6_lowest_5 : decode cX6_lowest 5 = .ok (.if_icmp .ge 19, 3) := by decide +kernel
theorem dX6_lowest_8 : decode cX6_lowest 8 = .ok (.iload_n 0, 1) := by decide +kernel
theorem dX6_lowest_9 : decode cX6_lowest 9 = .ok (.iload_n 1, 1) := by decide +kernel
theorem dX6_lowest_10 : decode cX6_lowest 10 = .ok (.invokestatic 37, 3) := by decide +kernel
theorem dX6_lowest_13 : decode cX6_lowest 13 = .ok (.ifCond .eq 5, 3) := by decide +kernel
theorem dX6_lowest_16 : decode cX6_lowest 16 = .ok (.iload_n 1, 1) := by decide +kernel
theorem dX6_lowest_17 : decode cX6_lowest 17 = .ok (.ireturn, 1) := by decide +kernel
theorem dX6_lowest_18 : decode cX6_lowest 18 = .ok (.iinc 1 1, 3) := by decide +kernel
theorem dX6_lowest_21 : decode cX6_lowest 21 = .ok (.goto (-19), 3) := by decide +kernel
theorem dX6_lowest_24 : decode cX6_lowest 24 = .ok (.iconst (-1), 1) := by decide +kernel
theorem dX6_lowest_25 : decode cX6_lowest 25 = .ok (.ireturn, 1) := by decide +kernel
theorem dX7_init_0 : decode cX7_init 0 = .ok (.aload_n 0, 1) := by decide +kernel
theorem dX7_init_1 : decode cX7_init 1 = .ok (.invokespecial 1, 3) := by decide +kernel
theorem dX7_init_4 : decode cX7_init 4 = .ok (.aload_n 0, 1) := by decide +kernel
theorem dX7_init_5 : decode cX7_init 5 = .ok (.new 7, 3) := by decide +kernel
theorem dX7_init_8 : decode cX7_init 8 = .ok (.dup, 1) := by decide +kernel
theorem dX7_init_9 : decode cX7_init 9 = .ok (.invokespecial 9, 3) := by decide +kernel
theorem dX7_init_12 : decode cX7_init 12 = .ok (.putfield 10, 3) := by decide +kernel
theorem dX7_init_15 : decode cX7_init 15 = .ok (.aload_n 0, 1) := by decide +kernel
theorem dX7_init_16 : decode cX7_init 16 = .ok (.new 16, 3) := by decide +kernel
theorem dX7_init_19 : decode cX7_init 19 = .ok (.dup, 1) := by decide +kernel
theorem dX7_init_20 : decode cX7_init 20 = .ok (.invokespecial 18, 3) := by decide +kernel
theorem dX7_init_23 : decode cX7_init 23 = .ok (.putfield 19, 3) := by decide +kernel
theorem dX7_init_26 : decode cX7_init 26 = .ok (.aload_n 0, 1) := by decide +kernel
theorem dX7_init_27 : decode cX7_init 27 = .ok (.new 23, 3) := by decide +kernel
theorem dX7_init_30 : decode cX7_init 30 = .ok (.dup, 1) := by decide +kernel
theorem dX7_init_31 : decode cX7_init 31 = .ok (.invokespecial 25, 3) := by decide +kernel
theorem dX7_init_34 : decode cX7_init 34 = .ok (.putfield 26, 3) := by decide +kernel
theorem dX7_init_37 : decode cX7_init 37 = .ok (.aload_n 0, 1) := by decide +kernel
theorem dX7_init_38 : decode cX7_init 38 = .ok (.new 30, 3) := by decide +kernel
theorem dX7_init_41 : decode cX7_init 41 = .ok (.dup, 1) := by decide +kernel
theorem dX7_init_42 : decode cX7_init 42 = .ok (.aload_n 0, 1) := by decide +kernel
theorem dX7_init_43 : decode cX7_init 43 = .ok (.getfield 10, 3) := by decide +kernel
theorem dX7_init_46 : decode cX7_init 46 = .ok (.invokespecial 32, 3) := by decide +kernel
theorem dX7_init_49 : decode cX7_init 49 = .ok (.putfield 35, 3) := by decide +kernel
theorem dX7_init_52 : decode cX7_init 52 = .ok (.aload_n 0, 1) := by decide +kernel
theorem dX7_init_53 : decode cX7_init 53 = .ok (.new 39, 3) := by decide +kernel
theorem dX7_init_56 : decode cX7_init 56 = .ok (.dup, 1) := by decide +kernel
theorem dX7_init_57 : decode cX7_init 57 = .ok (.aload_n 0, 1) := by decide +kernel
theorem dX7_init_58 : decode cX7_init 58 = .ok (.getfield 35, 3) := by decide +kernel
theorem dX7_init_61 : decode cX7_init 61 = .ok (.invokespecial 41, 3) := by decide +kernel
theorem dX7_init_64 : decode cX7_init 64 = .ok (.putfield 44, 3) := by decide +kernel
theorem dX7_init_67 : decode cX7_init 67 = .ok (.aload_n 0, 1) := by decide +kernel
theorem dX7_init_68 : decode cX7_init 68 = .ok (.new 48, 3) := by decide +kernel
theorem dX7_init_71 : decode cX7_init 71 = .ok (.dup, 1) := by decide +kernel
theorem dX7_init_72 : decode cX7_init 72 = .ok (.invokespecial 50, 3) := by decide +kernel
theorem dX7_init_75 : decode cX7_init 75 = .ok (.putfield 51, 3) := by decide +kernel
theorem dX7_init_78 : decode cX7_init 78 = .ok (.return_, 1) := by decide +kernel
theorem dX7_addWorld_0 : decode cX7_addWorld 0 = .ok (.iload_n 1, 1) := by decide +kernel
theorem dX7_addWorld_1 : decode cX7_addWorld 1 = .ok (.ifCond .lt 9, 3) := by decide +kernel
theorem dX7_addWorld_4 : decode cX7_addWorld 4 = .ok (.iload_n 1, 1) := by decide +kernel
theorem dX7_addWorld_5 : decode cX7_addWorld 5 = .ok (.bipush 15, 2) := by decide +kernel
theorem dX7_addWorld_7 : decode cX7_addWorld 7 = .ok (.if_icmp .le 13, 3) := by decide +kernel
theorem dX7_addWorld_10 : decode cX7_addWorld 10 = .ok (.new 55, 3) := by decide +kernel
theorem dX7_addWorld_13 : decode cX7_addWorld 13 = .ok (.dup, 1) := by decide +kernel
theorem dX7_addWorld_14 : decode cX7_addWorld 14 = .ok (.ldc 57, 2) := by decide +kernel
theorem dX7_addWorld_16 : decode cX7_addWorld 16 = .ok (.invokespecial 59, 3) := by decide +kernel
theorem dX7_addWorld_19 : decode cX7_addWorld 19 = .ok (.athrow, 1) := by decide +kernel
theorem dX7_addWorld_20 : decode cX7_addWorld 20 = .ok (.aload_n 0, 1) := by decide +kernel
theorem dX7_addWorld_21 : decode cX7_addWorld 21 = .ok (.getfield 10, 3) := by decide +kernel
theorem dX7_addWorld_24 : decode cX7_addWorld 24 = .ok (.getfield 62, 3) := by decide +kernel
theorem dX7_addWorld_27 : decode cX7_addWorld 27 = .ok (.bipush 10, 2) := by decide +kernel
theorem dX7_addWorld_29 : decode cX7_addWorld 29 = .ok (.if_icmp .lt 13, 3) := by decide +kernel
theorem dX7_addWorld_32 : decode cX7_addWorld 32 = .ok (.new 66, 3) := by decide +kernel
theorem dX7_addWorld_35 : decode cX7_addWorld 35 = .ok (.dup, 1) := by decide +kernel
theorem dX7_addWorld_36 : decode cX7_addWorld 36 = .ok (.ldc 68, 2) := by decide +kernel
theorem dX7_addWorld_38 : decode cX7_addWorld 38 = .ok (.invokespecial 70, 3) := by decide +kernel
theorem dX7_addWorld_41 : decode cX7_addWorld 41 = .ok (.athrow, 1) := by decide +kernel
theorem dX7_addWorld_42 : decode cX7_addWorld 42 = .ok (.aload_n 0, 1) := by decide +kernel
theorem dX7_addWorld_43 : decode cX7_addWorld 43 = .ok (.getfield 19, 3) := by decide +kernel
theorem dX7_addWorld_46 : decode cX7_addWorld 46 = .ok (.aload_n 0, 1) := by decide +kernel
theorem dX7_addWorld_47 : decode cX7_addWorld 47 = .ok (.getfield 10, 3) := by decide +kernel
theorem dX7_addWorld_50 : decode cX7_addWorld 50 = .ok (.invokevirtual 71, 3) := by decide +kernel
theorem dX7_addWorld_53 : decode cX7_addWorld 53 = .ok (.aload_n 0, 1) := by decide +kernel
theorem dX7_addWorld_54 : decode cX7_addWorld 54 = .ok (.getfield 10, 3) := by decide +kernel
theorem dX7_addWorld_57 : decode cX7_addWorld 57 = .ok (.iload_n 1, 1) := by decide +kernel
theorem dX7_addWorld_58 : decode cX7_addWorld 58 = .ok (.invokevirtual 74, 3) := by decide +kernel
theorem dX7_addWorld_61 : decode cX7_addWorld 61 = .ok (.ireturn, 1) := by decide +kernel
theorem dX7_removeWorld_0 : decode cX7_removeWorld 0 = .ok (.aload_n 0, 1) := by decide +kernel
theorem dX7_removeWorld_1 : decode cX7_removeWorld 1 = .ok (.iload_n 1, 1) := by decide +kernel
theorem dX7_removeWorld_2 : decode cX7_removeWorld 2 = .ok (.invokevirtual 78, 3) := by decide +kernel
theorem dX7_removeWorld_5 : decode cX7_removeWorld 5 = .ok (.aload_n 0, 1) := by decide +kernel
theorem dX7_removeWorld_6 : decode cX7_removeWorld 6 = .ok (.getfield 19, 3) := by decide +kernel
theorem dX7_removeWorld_9 : decode cX7_removeWorld 9 = .ok (.aload_n 0, 1) := by decide +kernel
theorem dX7_removeWorld_10 : decode cX7_removeWorld 10 = .ok (.getfield 10, 3) := by decide +kernel
theorem dX7_removeWorld_13 : decode cX7_removeWorld 13 = .ok (.invokevirtual 71, 3) := by decide +kernel
theorem dX7_removeWorld_16 : decode cX7_removeWorld 16 = .ok (.aload_n 0, 1) := by decide +kernel
theorem dX7_removeWorld_17 : decode cX7_removeWorld 17 = .ok (.getfield 10, 3) := by decide +kernel
theorem dX7_removeWorld_20 : decode cX7_removeWorld 20 = .ok (.iload_n 1, 1) := by decide +kernel
theorem dX7_removeWorld_21 : decode cX7_removeWorld 21 = .ok (.invokevirtual 82, 3) := by decide +kernel
theorem dX7_removeWorld_24 : decode cX7_removeWorld 24 = .ok (.aload_n 0, 1) := by decide +kernel
theorem dX7_removeWorld_25 : decode cX7_removeWorld 25 = .ok (.getfield 10, 3) := by decide +kernel
theorem dX7_removeWorld_28 : decode cX7_removeWorld 28 = .ok (.getfield 62, 3) := by decide +kernel
theorem dX7_removeWorld_31 : decode cX7_removeWorld 31 = .ok (.ireturn, 1) := by decide +kernel
theorem dX7_step_0 : decode cX7_step 0 = .ok (.aload_n 0, 1) := by decide +kernel
theorem dX7_step_1 : decode cX7_step 1 = .ok (.iload_n 1, 1) := by decide +kernel
theorem dX7_step_2 : decode cX7_step 2 = .ok (.invokevirtual 78, 3) := by decide +kernel
theorem dX7_step_5 : decode cX7_step 5 = .ok (.aload_n 0, 1) := by decide +kernel
theorem dX7_step_6 : decode cX7_step 6 = .ok (.iload_n 2, 1) := by decide +kernel
theorem dX7_step_7 : decode cX7_step 7 = .ok (.invokevirtual 78, 3) := by decide +kernel
theorem dX7_step_10 : decode cX7_step 10 = .ok (.aload_n 0, 1) := by decide +kernel
theorem dX7_step_11 : decode cX7_step 11 = .ok (.getfield 19, 3) := by decide +kernel
theorem dX7_step_14 : decode cX7_step 14 = .ok (.aload_n 0, 1) := by decide +kernel
theorem dX7_step_15 : decode cX7_step 15 = .ok (.getfield 10, 3) := by decide +kernel
theorem dX7_step_18 : decode cX7_step 18 = .ok (.invokevirtual 71, 3) := by decide +kernel
theorem dX7_step_21 : decode cX7_step 21 = .ok (.aload_n 0, 1) := by decide +kernel
theorem dX7_step_22 : decode cX7_step 22 = .ok (.getfield 10, 3) := by decide +kernel
theorem dX7_step_25 : decode cX7_step 25 = .ok (.iload_n 1, 1) := by decide +kernel
theorem dX7_step_26 : decode cX7_step 26 = .ok (.iload_n 2, 1) := by decide +kernel
theorem dX7_step_27 : decode cX7_step 27 = .ok (.invokevirtual 85, 3) := by decide +kernel
theorem dX7_step_30 : decode cX7_step 30 = .ok (.aload_n 0, 1) := by decide +kernel
theorem dX7_step_31 : decode cX7_step 31 = .ok (.getfield 10, 3) := by decide +kernel
theorem dX7_step_34 : decode cX7_step 34 = .ok (.iload_n 1, 1) := by decide +kernel
theorem dX7_step_35 : decode cX7_step 35 = .ok (.invokevirtual 89, 3) := by decide +kernel
theorem dX7_step_38 : decode cX7_step 38 = .ok (.iload_n 2, 1) := by decide +kernel
theorem dX7_step_39 : decode cX7_step 39 = .ok (.ishr, 1) := by decide +kernel
theorem dX7_step_40 : decode cX7_step 40 = .ok (.iconst 1, 1) := by decide +kernel
theorem dX7_step_41 : decode cX7_step 41 = .ok (.iand, 1) := by decide +kernel
theorem dX7_step_42 : decode cX7_step 42 = .ok (.ireturn, 1) := by decide +kernel
theorem dX7_flip_0 : decode cX7_flip 0 = .ok (.aload_n 0, 1) := by decide +kernel
theorem dX7_flip_1 : decode cX7_flip 1 = .ok (.iload_n 1, 1) := by decide +kernel
theorem dX7_flip_2 : decode cX7_flip 2 = .ok (.invokevirtual 78, 3) := by decide +kernel
theorem dX7_flip_5 : decode cX7_flip 5 = .ok (.iload_n 2, 1) := by decide +kernel
theorem dX7_flip_6 : decode cX7_flip 6 = .ok (.ifCond .lt 8, 3) := by decide +kernel
theorem dX7_flip_9 : decode cX7_flip 9 = .ok (.iload_n 2, 1) := by decide +kernel
theorem dX7_flip_10 : decode cX7_flip 10 = .ok (.iconst 4, 1) := by decide +kernel
theorem dX7_flip_11 : decode cX7_flip 11 = .ok (.if_icmp .lt 13, 3) := by decide +kernel
theorem dX7_flip_14 : decode cX7_flip 14 = .ok (.new 55, 3) := by decide +kernel
theorem dX7_flip_17 : decode cX7_flip 17 = .ok (.dup, 1) := by decide +kernel
theorem dX7_flip_18 : decode cX7_flip 18 = .ok (.ldc 92, 2) := by decide +kernel
theorem dX7_flip_20 : decode cX7_flip 20 = .ok (.invokespecial 59, 3) := by decide +kernel
theorem dX7_flip_23 : decode cX7_flip 23 = .ok (.athrow, 1) := by decide +kernel
theorem dX7_flip_24 : decode cX7_flip 24 = .ok (.aload_n 0, 1) := by decide +kernel
theorem dX7_flip_25 : decode cX7_flip 25 = .ok (.getfield 19, 3) := by decide +kernel
theorem dX7_flip_28 : decode cX7_flip 28 = .ok (.aload_n 0, 1) := by decide +kernel
theorem dX7_flip_29 : decode cX7_flip 29 = .ok (.getfield 10, 3) := by decide +kernel
theorem dX7_flip_32 : decode cX7_flip 32 = .ok (.invokevirtual 71, 3) := by decide +kernel
theorem dX7_flip_35 : decode cX7_flip 35 = .ok (.aload_n 0, 1) := by decide +kernel
theorem dX7_flip_36 : decode cX7_flip 36 = .ok (.getfield 10, 3) := by decide +kernel
theorem dX7_flip_39 : decode cX7_flip 39 = .ok (.iload_n 1, 1) := by decide +kernel
theorem dX7_flip_40 : decode cX7_flip 40 = .ok (.iload_n 2, 1) := by decide +kernel
theorem dX7_flip_41 : decode cX7_flip 41 = .ok (.invokevirtual 94, 3) := by decide +kernel
theorem dX7_flip_44 : decode cX7_flip 44 = .ok (.aload_n 0, 1) := by decide +kernel
theorem dX7_flip_45 : decode cX7_flip 45 = .ok (.getfield 10, 3) := by decide +kernel
theorem dX7_flip_48 : decode cX7_flip 48 = .ok (.iload_n 1, 1) := by decide +kernel
theorem dX7_flip_49 : decode cX7_flip 49 = .ok (.invokevirtual 97, 3) := by decide +kernel
theorem dX7_flip_52 : decode cX7_flip 52 = .ok (.ireturn, 1) := by decide +kernel
theorem dX7_fair_0 : decode cX7_fair 0 = .ok (.iload_n 1, 1) := by decide +kernel
theorem dX7_fair_1 : decode cX7_fair 1 = .ok (.invokestatic 100, 3) := by decide +kernel
theorem dX7_fair_4 : decode cX7_fair 4 = .ok (.aload_n 0, 1) := by decide +kernel
theorem dX7_fair_5 : decode cX7_fair 5 = .ok (.getfield 19, 3) := by decide +kernel
theorem dX7_fair_8 : decode cX7_fair 8 = .ok (.aload_n 0, 1) := by decide +kernel
theorem dX7_fair_9 : decode cX7_fair 9 = .ok (.getfield 10, 3) := by decide +kernel
theorem dX7_fair_12 : decode cX7_fair 12 = .ok (.invokevirtual 71, 3) := by decide +kernel
theorem dX7_fair_15 : decode cX7_fair 15 = .ok (.aload_n 0, 1) := by decide +kernel
theorem dX7_fair_16 : decode cX7_fair 16 = .ok (.getfield 10, 3) := by decide +kernel
theorem dX7_fair_19 : decode cX7_fair 19 = .ok (.getfield 103, 3) := by decide +kernel
theorem dX7_fair_22 : decode cX7_fair 22 = .ok (.istore_n 2, 1) := by decide +kernel
theorem dX7_fair_23 : decode cX7_fair 23 = .ok (.aload_n 0, 1) := by decide +kernel
theorem dX7_fair_24 : decode cX7_fair 24 = .ok (.getfield 10, 3) := by decide +kernel
theorem dX7_fair_27 : decode cX7_fair 27 = .ok (.iload_n 1, 1) := by decide +kernel
theorem dX7_fair_28 : decode cX7_fair 28 = .ok (.putfield 103, 3) := by decide +kernel
theorem dX7_fair_31 : decode cX7_fair 31 = .ok (.iload_n 2, 1) := by decide +kernel
theorem dX7_fair_32 : decode cX7_fair 32 = .ok (.ireturn, 1) := by decide +kernel
theorem dX7_ring_0 : decode cX7_ring 0 = .ok (.aload_n 0, 1) := by decide +kernel
theorem dX7_ring_1 : decode cX7_ring 1 = .ok (.getfield 19, 3) := by decide +kernel
theorem dX7_ring_4 : decode cX7_ring 4 = .ok (.aload_n 0, 1) := by decide +kernel
theorem dX7_ring_5 : decode cX7_ring 5 = .ok (.getfield 10, 3) := by decide +kernel
theorem dX7_ring_8 : decode cX7_ring 8 = .ok (.invokevirtual 71, 3) := by decide +kernel
theorem dX7_ring_11 : decode cX7_ring 11 = .ok (.aload_n 0, 1) := by decide +kernel
theorem dX7_ring_12 : decode cX7_ring 12 = .ok (.getfield 10, 3) := by decide +kernel
theorem dX7_ring_15 : decode cX7_ring 15 = .ok (.invokevirtual 106, 3) := by decide +kernel
theorem dX7_ring_18 : decode cX7_ring 18 = .ok (.aload_n 0, 1) := by decide +kernel
theorem dX7_ring_19 : decode cX7_ring 19 = .ok (.getfield 10, 3) := by decide +kernel
theorem dX7_ring_22 : decode cX7_ring 22 = .ok (.invokevirtual 109, 3) := by decide +kernel
theorem dX7_ring_25 : decode cX7_ring 25 = .ok (.ireturn, 1) := by decide +kernel
theorem dX7_append_0 : decode cX7_append 0 = .ok (.iload_n 1, 1) := by decide +kernel
theorem dX7_append_1 : decode cX7_append 1 = .ok (.bipush 33, 2) := by decide +kernel
theorem dX7_append_3 : decode cX7_append 3 = .ok (.if_icmp .lt 9, 3) := by decide +kernel
theorem dX7_append_6 : decode cX7_append 6 = .ok (.iload_n 1, 1) := by decide +kernel
theorem dX7_append_7 : decode cX7_append 7 = .ok (.bipush 126, 2) := by decide +kernel
theorem dX7_append_9 : decode cX7_append 9 = .ok (.if_icmp .le 13, 3) := by decide +kernel
theorem dX7_append_12 : decode cX7_append 12 = .ok (.new 55, 3) := by decide +kernel
theorem dX7_append_15 : decode cX7_append 15 = .ok (.dup, 1) := by decide +kernel
theorem dX7_append_16 : decode cX7_append 16 = .ok (.ldc 113, 2) := by decide +kernel
theorem dX7_append_18 : decode cX7_append 18 = .ok (.invokespecial 59, 3) := by decide +kernel
theorem dX7_append_21 : decode cX7_append 21 = .ok (.athrow, 1) := by decide +kernel
theorem dX7_append_22 : decode cX7_append 22 = .ok (.aload_n 0, 1) := by decide +kernel
theorem dX7_append_23 : decode cX7_append 23 = .ok (.getfield 26, 3) := by decide +kernel
theorem dX7_append_26 : decode cX7_append 26 = .ok (.getfield 115, 3) := by decide +kernel
theorem dX7_append_29 : decode cX7_append 29 = .ok (.bipush 60, 2) := by decide +kernel
theorem dX7_append_31 : decode cX7_append 31 = .ok (.if_icmp .lt 13, 3) := by decide +kernel
theorem dX7_append_34 : decode cX7_append 34 = .ok (.new 66, 3) := by decide +kernel
theorem dX7_append_37 : decode cX7_append 37 = .ok (.dup, 1) := by decide +kernel
theorem dX7_append_38 : decode cX7_append 38 = .ok (.ldc 118, 2) := by decide +kernel
theorem dX7_append_40 : decode cX7_append 40 = .ok (.invokespecial 70, 3) := by decide +kernel
theorem dX7_append_43 : decode cX7_append 43 = .ok (.athrow, 1) := by decide +kernel
theorem dX7_append_44 : decode cX7_append 44 = .ok (.aload_n 0, 1) := by decide +kernel
theorem dX7_append_45 : decode cX7_append 45 = .ok (.getfield 26, 3) := by decide +kernel
theorem dX7_append_48 : decode cX7_append 48 = .ok (.iload_n 1, 1) := by decide +kernel
theorem dX7_append_49 : decode cX7_append 49 = .ok (.i2c, 1) := by decide +kernel
theorem dX7_append_50 : decode cX7_append 50 = .ok (.invokevirtual 120, 3) := by decide +kernel
theorem dX7_append_53 : decode cX7_append 53 = .ok (.aload_n 0, 1) := by decide +kernel
theorem dX7_append_54 : decode cX7_append 54 = .ok (.getfield 26, 3) := by decide +kernel
theorem dX7_append_57 : decode cX7_append 57 = .ok (.getfield 115, 3) := by decide +kernel
theorem dX7_append_60 : decode cX7_append 60 = .ok (.ireturn, 1) := by decide +kernel
theorem dX7_clearBuffer_0 : decode cX7_clearBuffer 0 = .ok (.aload_n 0, 1) := by decide +kernel
theorem dX7_clearBuffer_1 : decode cX7_clearBuffer 1 = .ok (.getfield 26, 3) := by decide +kernel
theorem dX7_clearBuffer_4 : decode cX7_clearBuffer 4 = .ok (.getfield 115, 3) := by decide +kernel
theorem dX7_clearBuffer_7 : decode cX7_clearBuffer 7 = .ok (.istore_n 1, 1) := by decide +kernel
theorem dX7_clearBuffer_8 : decode cX7_clearBuffer 8 = .ok (.aload_n 0, 1) := by decide +kernel
theorem dX7_clearBuffer_9 : decode cX7_clearBuffer 9 = .ok (.getfield 26, 3) := by decide +kernel
theorem dX7_clearBuffer_12 : decode cX7_clearBuffer 12 = .ok (.iconst 0, 1) := by decide +kernel
theorem dX7_clearBuffer_13 : decode cX7_clearBuffer 13 = .ok (.putfield 115, 3) := by decide +kernel
theorem dX7_clearBuffer_16 : decode cX7_clearBuffer 16 = .ok (.iload_n 1, 1) := by decide +kernel
theorem dX7_clearBuffer_17 : decode cX7_clearBuffer 17 = .ok (.ireturn, 1) := by decide +kernel
theorem dX7_firstError_0 : decode cX7_firstError 0 = .ok (.aload_n 0, 1) := by decide +kernel
theorem dX7_firstError_1 : decode cX7_firstError 1 = .ok (.getfield 26, 3) := by decide +kernel
theorem dX7_firstError_4 : decode cX7_firstError 4 = .ok (.invokevirtual 124, 3) := by decide +kernel
theorem dX7_firstError_7 : decode cX7_firstError 7 = .ok (.ireturn, 1) := by decide +kernel
theorem dX7_read_0 : decode cX7_read 0 = .ok (.iload_n 1, 1) := by decide +kernel
theorem dX7_read_1 : decode cX7_read 1 = .ok (.invokestatic 127, 3) := by decide +kernel
theorem dX7_read_4 : decode cX7_read 4 = .ok (.aload_n 0, 1) := by decide +kernel
theorem dX7_read_5 : decode cX7_read 5 = .ok (.getfield 26, 3) := by decide +kernel
theorem dX7_read_8 : decode cX7_read 8 = .ok (.invokevirtual 130, 3) := by decide +kernel
theorem dX7_read_11 : decode cX7_read 11 = .ok (.ifCond .ne 13, 3) := by decide +kernel
theorem dX7_read_14 : decode cX7_read 14 = .ok (.new 55, 3) := by decide +kernel
theorem dX7_read_17 : decode cX7_read 17 = .ok (.dup, 1) := by decide +kernel
theorem dX7_read_18 : decode cX7_read 18 = .ok (.ldc 134, 2) := by decide +kernel
theorem dX7_read_20 : decode cX7_read 20 = .ok (.invokespecial 59, 3) := by decide +kernel
theorem dX7_read_23 : decode cX7_read 23 = .ok (.athrow, 1) := by decide +kernel
theorem dX7_read_24 : decode cX7_read 24 = .ok (.aload_n 0, 1) := by decide +kernel
theorem dX7_read_25 : decode cX7_read 25 = .ok (.getfield 19, 3) := by decide +kernel
theorem dX7_read_28 : decode cX7_read 28 = .ok (.aload_n 0, 1) := by decide +kernel
theorem dX7_read_29 : decode cX7_read 29 = .ok (.getfield 10, 3) := by decide +kernel
theorem dX7_read_32 : decode cX7_read 32 = .ok (.invokevirtual 71, 3) := by decide +kernel
theorem dX7_read_35 : decode cX7_read 35 = .ok (.aload_n 0, 1) := by decide +kernel
theorem dX7_read_36 : decode cX7_read 36 = .ok (.getfield 10, 3) := by decide +kernel
theorem dX7_read_39 : decode cX7_read 39 = .ok (.iload_n 1, 1) := by decide +kernel
theorem dX7_read_40 : decode cX7_read 40 = .ok (.aload_n 0, 1) := by decide +kernel
theorem dX7_read_41 : decode cX7_read 41 = .ok (.getfield 26, 3) := by decide +kernel
theorem dX7_read_44 : decode cX7_read 44 = .ok (.invokevirtual 136, 3) := by decide +kernel
theorem dX7_read_47 : decode cX7_read 47 = .ok (.aload_n 0, 1) := by decide +kernel
theorem dX7_read_48 : decode cX7_read 48 = .ok (.getfield 26, 3) := by decide +kernel
theorem dX7_read_51 : decode cX7_read 51 = .ok (.iconst 0, 1) := by decide +kernel
theorem dX7_read_52 : decode cX7_read 52 = .ok (.putfield 115, 3) := by decide +kernel
theorem dX7_read_55 : decode cX7_read 55 = .ok (.aload_n 0, 1) := by decide +kernel
theorem dX7_read_56 : decode cX7_read 56 = .ok (.getfield 10, 3) := by decide +kernel
theorem dX7_read_59 : decode cX7_read 59 = .ok (.iload_n 1, 1) := by decide +kernel
theorem dX7_read_60 : decode cX7_read 60 = .ok (.invokevirtual 140, 3) := by decide +kernel
theorem dX7_read_63 : decode cX7_read 63 = .ok (.ireturn, 1) := by decide +kernel
theorem dX7_negate_0 : decode cX7_negate 0 = .ok (.iload_n 1, 1) := by decide +kernel
theorem dX7_negate_1 : decode cX7_negate 1 = .ok (.invokestatic 127, 3) := by decide +kernel
theorem dX7_negate_4 : decode cX7_negate 4 = .ok (.aload_n 0, 1) := by decide +kernel
theorem dX7_negate_5 : decode cX7_negate 5 = .ok (.getfield 10, 3) := by decide +kernel
theorem dX7_negate_8 : decode cX7_negate 8 = .ok (.iload_n 1, 1) := by decide +kernel
theorem dX7_negate_9 : decode cX7_negate 9 = .ok (.iconst 0, 1) := by decide +kernel
theorem dX7_negate_10 : decode cX7_negate 10 = .ok (.invokevirtual 143, 3) := by decide +kernel
theorem dX7_negate_13 : decode cX7_negate 13 = .ok (.bipush 33, 2) := by decide +kernel
theorem dX7_negate_15 : decode cX7_negate 15 = .ok (.if_icmp .ne 7, 3) := by decide +kernel
theorem dX7_negate_18 : decode cX7_negate 18 = .ok (.iconst 1, 1) := by decide +kernel
theorem dX7_negate_19 : decode cX7_negate 19 = .ok (.goto 4, 3) := by decide +kernel
theorem dX7_negate_22 : decode cX7_negate 22 = .ok (.iconst 0, 1) := by decide +kernel
theorem dX7_negate_23 : decode cX7_negate 23 = .ok (.istore_n 2, 1) := by decide +kernel
theorem dX7_negate_24 : decode cX7_negate 24 = .ok (.aload_n 0, 1) := by decide +kernel
theorem dX7_negate_25 : decode cX7_negate 25 = .ok (.getfield 10, 3) := by decide +kernel
theorem dX7_negate_28 : decode cX7_negate 28 = .ok (.iload_n 1, 1) := by decide +kernel
theorem dX7_negate_29 : decode cX7_negate 29 = .ok (.invokevirtual 140, 3) := by decide +kernel
theorem dX7_negate_32 : decode cX7_negate 32 = .ok (.istore_n 3, 1) := by decide +kernel
theorem dX7_negate_33 : decode cX7_negate 33 = .ok (.iload_n 3, 1) := by decide +kernel
theorem dX7_negate_34 : decode cX7_negate 34 = .ok (.ifCond .eq 13, 3) := by decide +kernel
theorem dX7_negate_37 : decode cX7_negate 37 = .ok (.iload_n 2, 1) := by decide +kernel
theorem dX7_negate_38 : decode cX7_negate 38 = .ok (.ifCond .ne 19, 3) := by decide +kernel
theorem dX7_negate_41 : decode cX7_negate 41 = .ok (.iload_n 3, 1) := by decide +kernel
theorem dX7_negate_42 : decode cX7_negate 42 = .ok (.bipush 40, 2) := by decide +kernel
theorem dX7_negate_44 : decode cX7_negate 44 = .ok (.if_icmp .lt 13, 3) := by decide +kernel
theorem dX7_negate_47 : decode cX7_negate 47 = .ok (.new 66, 3) := by decide +kernel
theorem dX7_negate_50 : decode cX7_negate 50 = .ok (.dup, 1) := by decide +kernel
theorem dX7_negate_51 : decode cX7_negate 51 = .ok (.ldc 147, 2) := by decide +kernel
theorem dX7_negate_53 : decode cX7_negate 53 = .ok (.invokespecial 70, 3) := by decide +kernel
theorem dX7_negate_56 : decode cX7_negate 56 = .ok (.athrow, 1) := by decide +kernel
theorem dX7_negate_57 : decode cX7_negate 57 = .ok (.aload_n 0, 1) := by decide +kernel
theorem dX7_negate_58 : decode cX7_negate 58 = .ok (.getfield 19, 3) := by decide +kernel
theorem dX7_negate_61 : decode cX7_negate 61 = .ok (.aload_n 0, 1) := by decide +kernel
theorem dX7_negate_62 : decode cX7_negate 62 = .ok (.getfield 10, 3) := by decide +kernel
theorem dX7_negate_65 : decode cX7_negate 65 = .ok (.invokevirtual 71, 3) := by decide +kernel
theorem dX7_negate_68 : decode cX7_negate 68 = .ok (.iload_n 2, 1) := by decide +kernel
theorem dX7_negate_69 : decode cX7_negate 69 = .ok (.ifCond .eq 14, 3) := by decide +kernel
theorem dX7_negate_72 : decode cX7_negate 72 = .ok (.aload_n 0, 1) := by decide +kernel
theorem dX7_negate_73 : decode cX7_negate 73 = .ok (.getfield 10, 3) := by decide +kernel
theorem dX7_negate_76 : decode cX7_negate 76 = .ok (.iload_n 1, 1) := by decide +kernel
theorem dX7_negate_77 : decode cX7_negate 77 = .ok (.invokevirtual 149, 3) := by decide +kernel
theorem dX7_negate_80 : decode cX7_negate 80 = .ok (.goto 11, 3) := by decide +kernel
theorem dX7_negate_83 : decode cX7_negate 83 = .ok (.aload_n 0, 1) := by decide +kernel
theorem dX7_negate_84 : decode cX7_negate 84 = .ok (.getfield 10, 3) := by decide +kernel
theorem dX7_negate_87 : decode cX7_negate 87 = .ok (.iload_n 1, 1) := by decide +kernel
theorem dX7_negate_88 : decode cX7_negate 88 = .ok (.invokevirtual 152, 3) := by decide +kernel
theorem dX7_negate_91 : decode cX7_negate 91 = .ok (.aload_n 0, 1) := by decide +kernel
theorem dX7_negate_92 : decode cX7_negate 92 = .ok (.getfield 10, 3) := by decide +kernel
theorem dX7_negate_95 : decode cX7_negate 95 = .ok (.iload_n 1, 1) := by decide +kernel
theorem dX7_negate_96 : decode cX7_negate 96 = .ok (.invokevirtual 140, 3) := by decide +kernel
theorem dX7_negate_99 : decode cX7_negate 99 = .ok (.ireturn, 1) := by decide +kernel
theorem dX7_giveUp_0 : decode cX7_giveUp 0 = .ok (.iload_n 1, 1) := by decide +kernel
theorem dX7_giveUp_1 : decode cX7_giveUp 1 = .ok (.invokestatic 127, 3) := by decide +kernel
theorem dX7_giveUp_4 : decode cX7_giveUp 4 = .ok (.aload_n 0, 1) := by decide +kernel
theorem dX7_giveUp_5 : decode cX7_giveUp 5 = .ok (.getfield 19, 3) := by decide +kernel
theorem dX7_giveUp_8 : decode cX7_giveUp 8 = .ok (.aload_n 0, 1) := by decide +kernel
theorem dX7_giveUp_9 : decode cX7_giveUp 9 = .ok (.getfield 10, 3) := by decide +kernel
theorem dX7_giveUp_12 : decode cX7_giveUp 12 = .ok (.invokevirtual 71, 3) := by decide +kernel
theorem dX7_giveUp_15 : decode cX7_giveUp 15 = .ok (.aload_n 0, 1) := by decide +kernel
theorem dX7_giveUp_16 : decode cX7_giveUp 16 = .ok (.getfield 10, 3) := by decide +kernel
theorem dX7_giveUp_19 : decode cX7_giveUp 19 = .ok (.iload_n 1, 1) := by decide +kernel
theorem dX7_giveUp_20 : decode cX7_giveUp 20 = .ok (.invokevirtual 155, 3) := by decide +kernel
theorem dX7_giveUp_23 : decode cX7_giveUp 23 = .ok (.ireturn, 1) := by decide +kernel
theorem dX7_undo_0 : decode cX7_undo 0 = .ok (.aload_n 0, 1) := by decide +kernel
theorem dX7_undo_1 : decode cX7_undo 1 = .ok (.getfield 19, 3) := by decide +kernel
theorem dX7_undo_4 : decode cX7_undo 4 = .ok (.getfield 158, 3) := by decide +kernel
theorem dX7_undo_7 : decode cX7_undo 7 = .ok (.ifCond .ne 13, 3) := by decide +kernel
theorem dX7_undo_10 : decode cX7_undo 10 = .ok (.new 66, 3) := by decide +kernel
theorem dX7_undo_13 : decode cX7_undo 13 = .ok (.dup, 1) := by decide +kernel
theorem dX7_undo_14 : decode cX7_undo 14 = .ok (.ldc 161, 2) := by decide +kernel
theorem dX7_undo_16 : decode cX7_undo 16 = .ok (.invokespecial 70, 3) := by decide +kernel
theorem dX7_undo_19 : decode cX7_undo 19 = .ok (.athrow, 1) := by decide +kernel
theorem dX7_undo_20 : decode cX7_undo 20 = .ok (.aload_n 0, 1) := by decide +kernel
theorem dX7_undo_21 : decode cX7_undo 21 = .ok (.getfield 19, 3) := by decide +kernel
theorem dX7_undo_24 : decode cX7_undo 24 = .ok (.aload_n 0, 1) := by decide +kernel
theorem dX7_undo_25 : decode cX7_undo 25 = .ok (.getfield 10, 3) := by decide +kernel
theorem dX7_undo_28 : decode cX7_undo 28 = .ok (.invokevirtual 163, 3) := by decide +kernel
theorem dX7_undo_31 : decode cX7_undo 31 = .ok (.aload_n 0, 1) := by decide +kernel
theorem dX7_undo_32 : decode cX7_undo 32 = .ok (.getfield 19, 3) := by decide +kernel
theorem dX7_undo_35 : decode cX7_undo 35 = .ok (.getfield 158, 3) := by decide +kernel
theorem dX7_undo_38 : decode cX7_undo 38 = .ok (.ireturn, 1) := by decide +kernel
theorem dX7_world_0 : decode cX7_world 0 = .ok (.aload_n 0, 1) := by decide +kernel
theorem dX7_world_1 : decode cX7_world 1 = .ok (.iload_n 1, 1) := by decide +kernel
theorem dX7_world_2 : decode cX7_world 2 = .ok (.invokevirtual 78, 3) := by decide +kernel
theorem dX7_world_5 : decode cX7_world 5 = .ok (.iload_n 2, 1) := by decide +kernel
theorem dX7_world_6 : decode cX7_world 6 = .ok (.iconst 4, 1) := by decide +kernel
theorem dX7_world_7 : decode cX7_world 7 = .ok (.invokestatic 166, 3) := by decide +kernel
theorem dX7_world_10 : decode cX7_world 10 = .ok (.iload_n 2, 1) := by decide +kernel
theorem dX7_world_11 : decode cX7_world 11 = .ok (.tableswitch 70 0 3 #[29, 38, 47, 58], 29) := by decide +kernel
theorem dX7_world_40 : decode cX7_world 40 = .ok (.aload_n 0, 1) := by decide +kernel
theorem dX7_world_41 : decode cX7_world 41 = .ok (.getfield 10, 3) := by decide +kernel
theorem dX7_world_44 : decode cX7_world 44 = .ok (.iload_n 1, 1) := by decide +kernel
theorem dX7_world_45 : decode cX7_world 45 = .ok (.invokevirtual 97, 3) := by decide +kernel
theorem dX7_world_48 : decode cX7_world 48 = .ok (.ireturn, 1) := by decide +kernel
theorem dX7_world_49 : decode cX7_world 49 = .ok (.aload_n 0, 1) := by decide +kernel
theorem dX7_world_50 : decode cX7_world 50 = .ok (.getfield 10, 3) := by decide +kernel
theorem dX7_world_53 : decode cX7_world 53 = .ok (.iload_n 1, 1) := by decide +kernel
theorem dX7_world_54 : decode cX7_world 54 = .ok (.invokevirtual 89, 3) := by decide +kernel
theorem dX7_world_57 : decode cX7_world 57 = .ok (.ireturn, 1) := by decide +kernel
theorem dX7_world_58 : decode cX7_world 58 = .ok (.aload_n 0, 1) := by decide +kernel
theorem dX7_world_59 : decode cX7_world 59 = .ok (.getfield 10, 3) := by decide +kernel
theorem dX7_world_62 : decode cX7_world 62 = .ok (.iconst 1, 1) := by decide +kernel
theorem dX7_world_63 : decode cX7_world 63 = .ok (.iload_n 1, 1) := by decide +kernel
theorem dX7_world_64 : decode cX7_world 64 = .ok (.ishl, 1) := by decide +kernel
theorem dX7_world_65 : decode cX7_world 65 = .ok (.invokevirtual 169, 3) := by decide +kernel
theorem dX7_world_68 : decode cX7_world 68 = .ok (.ireturn, 1) := by decide +kernel
theorem dX7_world_69 : decode cX7_world 69 = .ok (.aload_n 0, 1) := by decide +kernel
theorem dX7_world_70 : decode cX7_world 70 = .ok (.getfield 35, 3) := by decide +kernel
theorem dX7_world_73 : decode cX7_world 73 = .ok (.invokevirtual 172, 3) := by decide +kernel
theorem dX7_world_76 : decode cX7_world 76 = .ok (.iload_n 1, 1) := by decide +kernel
theorem dX7_world_77 : decode cX7_world 77 = .ok (.ishr, 1) := by decide +kernel
theorem dX7_world_78 : decode cX7_world 78 = .ok (.iconst 1, 1) := by decide +kernel
theorem dX7_world_79 : decode cX7_world 79 = .ok (.iand, 1) := by decide +kernel
theorem dX7_world_80 : decode cX7_world 80 = .ok (.ireturn, 1) := by decide +kernel
theorem dX7_world_81 : decode cX7_world 81 = .ok (.aload_n 0, 1) := by decide +kernel
theorem dX7_world_82 : decode cX7_world 82 = .ok (.iload_n 1, 1) := by decide +kernel
theorem dX7_world_83 : decode cX7_world 83 = .ok (.invokevirtual 175, 3) := by decide +kernel
theorem dX7_world_86 : decode cX7_world 86 = .ok (.ireturn, 1) := by decide +kernel
theorem dX7_wish_0 : decode cX7_wish 0 = .ok (.iload_n 1, 1) := by decide +kernel
theorem dX7_wish_1 : decode cX7_wish 1 = .ok (.invokestatic 127, 3) := by decide +kernel
theorem dX7_wish_4 : decode cX7_wish 4 = .ok (.iload_n 2, 1) := by decide +kernel
theorem dX7_wish_5 : decode cX7_wish 5 = .ok (.iconst 3, 1) := by decide +kernel
theorem dX7_wish_6 : decode cX7_wish 6 = .ok (.invokestatic 166, 3) := by decide +kernel
theorem dX7_wish_9 : decode cX7_wish 9 = .ok (.aload_n 0, 1) := by decide +kernel
theorem dX7_wish_10 : decode cX7_wish 10 = .ok (.getfield 35, 3) := by decide +kernel
theorem dX7_wish_13 : decode cX7_wish 13 = .ok (.iload_n 1, 1) := by decide +kernel
theorem dX7_wish_14 : decode cX7_wish 14 = .ok (.invokevirtual 178, 3) := by decide +kernel
theorem dX7_wish_17 : decode cX7_wish 17 = .ok (.pop, 1) := by decide +kernel
theorem dX7_wish_18 : decode cX7_wish 18 = .ok (.aload_n 0, 1) := by decide +kernel
theorem dX7_wish_19 : decode cX7_wish 19 = .ok (.getfield 35, 3) := by decide +kernel
theorem dX7_wish_22 : decode cX7_wish 22 = .ok (.iload_n 2, 1) := by decide +kernel
theorem dX7_wish_23 : decode cX7_wish 23 = .ok (.invokevirtual 181, 3) := by decide +kernel
theorem dX7_wish_26 : decode cX7_wish 26 = .ok (.ireturn, 1) := by decide +kernel
theorem dX7_sign_0 : decode cX7_sign 0 = .ok (.iload_n 1, 1) := by decide +kernel
theorem dX7_sign_1 : decode cX7_sign 1 = .ok (.invokestatic 127, 3) := by decide +kernel
theorem dX7_sign_4 : decode cX7_sign 4 = .ok (.iload_n 2, 1) := by decide +kernel
theorem dX7_sign_5 : decode cX7_sign 5 = .ok (.ifCond .lt 15, 3) := by decide +kernel
theorem dX7_sign_8 : decode cX7_sign 8 = .ok (.iload_n 2, 1) := by decide +kernel
theorem dX7_sign_9 : decode cX7_sign 9 = .ok (.aload_n 0, 1) := by decide +kernel
theorem dX7_sign_10 : decode cX7_sign 10 = .ok (.getfield 10, 3) := by decide +kernel
theorem dX7_sign_13 : decode cX7_sign 13 = .ok (.iload_n 1, 1) := by decide +kernel
theorem dX7_sign_14 : decode cX7_sign 14 = .ok (.invokevirtual 140, 3) := by decide +kernel
theorem dX7_sign_17 : decode cX7_sign 17 = .ok (.if_icmp .lt 13, 3) := by decide +kernel
theorem dX7_sign_20 : decode cX7_sign 20 = .ok (.new 184, 3) := by decide +kernel
theorem dX7_sign_23 : decode cX7_sign 23 = .ok (.dup, 1) := by decide +kernel
theorem dX7_sign_24 : decode cX7_sign 24 = .ok (.ldc 186, 2) := by decide +kernel
theorem dX7_sign_26 : decode cX7_sign 26 = .ok (.invokespecial 188, 3) := by decide +kernel
theorem dX7_sign_29 : decode cX7_sign 29 = .ok (.athrow, 1) := by decide +kernel
theorem dX7_sign_30 : decode cX7_sign 30 = .ok (.iload_n 3, 1) := by decide +kernel
theorem dX7_sign_31 : decode cX7_sign 31 = .ok (.iconst 3, 1) := by decide +kernel
theorem dX7_sign_32 : decode cX7_sign 32 = .ok (.invokestatic 166, 3) := by decide +kernel
theorem dX7_sign_35 : decode cX7_sign 35 = .ok (.aload_n 0, 1) := by decide +kernel
theorem dX7_sign_36 : decode cX7_sign 36 = .ok (.getfield 35, 3) := by decide +kernel
theorem dX7_sign_39 : decode cX7_sign 39 = .ok (.iload_n 1, 1) := by decide +kernel
theorem dX7_sign_40 : decode cX7_sign 40 = .ok (.invokevirtual 178, 3) := by decide +kernel
theorem dX7_sign_43 : decode cX7_sign 43 = .ok (.pop, 1) := by decide +kernel
theorem dX7_sign_44 : decode cX7_sign 44 = .ok (.aload_n 0, 1) := by decide +kernel
theorem dX7_sign_45 : decode cX7_sign 45 = .ok (.getfield 35, 3) := by decide +kernel
theorem dX7_sign_48 : decode cX7_sign 48 = .ok (.iload_n 2, 1) := by decide +kernel
theorem dX7_sign_49 : decode cX7_sign 49 = .ok (.iload_n 3, 1) := by decide +kernel
theorem dX7_sign_50 : decode cX7_sign 50 = .ok (.invokevirtual 189, 3) := by decide +kernel
theorem dX7_sign_53 : decode cX7_sign 53 = .ok (.ireturn, 1) := by decide +kernel
theorem dX7_witness_0 : decode cX7_witness 0 = .ok (.iload_n 1, 1) := by decide +kernel
theorem dX7_witness_1 : decode cX7_witness 1 = .ok (.invokestatic 127, 3) := by decide +kernel
theorem dX7_witness_4 : decode cX7_witness 4 = .ok (.aload_n 0, 1) := by decide +kernel
theorem dX7_witness_5 : decode cX7_witness 5 = .ok (.iload_n 2, 1) := by decide +kernel
theorem dX7_witness_6 : decode cX7_witness 6 = .ok (.invokevirtual 78, 3) := by decide +kernel
theorem dX7_witness_9 : decode cX7_witness 9 = .ok (.iload_n 3, 1) := by decide +kernel
theorem dX7_witness_10 : decode cX7_witness 10 = .ok (.ifCond .ge 13, 3) := by decide +kernel
theorem dX7_witness_13 : decode cX7_witness 13 = .ok (.new 55, 3) := by decide +kernel
theorem dX7_witness_16 : decode cX7_witness 16 = .ok (.dup, 1) := by decide +kernel
theorem dX7_witness_17 : decode cX7_witness 17 = .ok (.ldc 193, 2) := by decide +kernel
theorem dX7_witness_19 : decode cX7_witness 19 = .ok (.invokespecial 59, 3) := by decide +kernel
theorem dX7_witness_22 : decode cX7_witness 22 = .ok (.athrow, 1) := by decide +kernel
theorem dX7_witness_23 : decode cX7_witness 23 = .ok (.aload_n 0, 1) := by decide +kernel
theorem dX7_witness_24 : decode cX7_witness 24 = .ok (.getfield 35, 3) := by decide +kernel
theorem dX7_witness_27 : decode cX7_witness 27 = .ok (.iload_n 1, 1) := by decide +kernel
theorem dX7_witness_28 : decode cX7_witness 28 = .ok (.invokevirtual 178, 3) := by decide +kernel
theorem dX7_witness_31 : decode cX7_witness 31 = .ok (.pop, 1) := by decide +kernel
theorem dX7_witness_32 : decode cX7_witness 32 = .ok (.aload_n 0, 1) := by decide +kernel
theorem dX7_witness_33 : decode cX7_witness 33 = .ok (.getfield 44, 3) := by decide +kernel
theorem dX7_witness_36 : decode cX7_witness 36 = .ok (.iload_n 2, 1) := by decide +kernel
theorem dX7_witness_37 : decode cX7_witness 37 = .ok (.invokevirtual 195, 3) := by decide +kernel
theorem dX7_witness_40 : decode cX7_witness 40 = .ok (.aload_n 0, 1) := by decide +kernel
theorem dX7_witness_41 : decode cX7_witness 41 = .ok (.getfield 44, 3) := by decide +kernel
theorem dX7_witness_44 : decode cX7_witness 44 = .ok (.iload_n 3, 1) := by decide +kernel
theorem dX7_witness_45 : decode cX7_witness 45 = .ok (.invokevirtual 197, 3) := by decide +kernel
theorem dX7_witness_48 : decode cX7_witness 48 = .ok (.ireturn, 1) := by decide +kernel
theorem dX7_compare_0 : decode cX7_compare 0 = .ok (.iload_n 1, 1) := by decide +kernel
theorem dX7_compare_1 : decode cX7_compare 1 = .ok (.invokestatic 127, 3) := by decide +kernel
theorem dX7_compare_4 : decode cX7_compare 4 = .ok (.iload_n 2, 1) := by decide +kernel
theorem dX7_compare_5 : decode cX7_compare 5 = .ok (.invokestatic 127, 3) := by decide +kernel
theorem dX7_compare_8 : decode cX7_compare 8 = .ok (.aload_n 0, 1) := by decide +kernel
theorem dX7_compare_9 : decode cX7_compare 9 = .ok (.getfield 10, 3) := by decide +kernel
theorem dX7_compare_12 : decode cX7_compare 12 = .ok (.iload_n 1, 1) := by decide +kernel
theorem dX7_compare_13 : decode cX7_compare 13 = .ok (.invokevirtual 140, 3) := by decide +kernel
theorem dX7_compare_16 : decode cX7_compare 16 = .ok (.ifCond .eq 14, 3) := by decide +kernel
theorem dX7_compare_19 : decode cX7_compare 19 = .ok (.aload_n 0, 1) := by decide +kernel
theorem dX7_compare_20 : decode cX7_compare 20 = .ok (.getfield 10, 3) := by decide +kernel
theorem dX7_compare_23 : decode cX7_compare 23 = .ok (.iload_n 2, 1) := by decide +kernel
theorem dX7_compare_24 : decode cX7_compare 24 = .ok (.invokevirtual 140, 3) := by decide +kernel
theorem dX7_compare_27 : decode cX7_compare 27 = .ok (.ifCond .ne 5, 3) := by decide +kernel
theorem dX7_compare_30 : decode cX7_compare 30 = .ok (.iconst (-1), 1) := by decide +kernel
theorem dX7_compare_31 : decode cX7_compare 31 = .ok (.ireturn, 1) := by decide +kernel
theorem dX7_compare_32 : decode cX7_compare 32 = .ok (.aload_n 0, 1) := by decide +kernel
theorem dX7_compare_33 : decode cX7_compare 33 = .ok (.getfield 35, 3) := by decide +kernel
theorem dX7_compare_36 : decode cX7_compare 36 = .ok (.iload_n 1, 1) := by decide +kernel
theorem dX7_compare_37 : decode cX7_compare 37 = .ok (.invokevirtual 178, 3) := by decide +kernel
theorem dX7_compare_40 : decode cX7_compare 40 = .ok (.istore_n 3, 1) := by decide +kernel
theorem dX7_compare_41 : decode cX7_compare 41 = .ok (.aload_n 0, 1) := by decide +kernel
theorem dX7_compare_42 : decode cX7_compare 42 = .ok (.getfield 35, 3) := by decide +kernel
theorem dX7_compare_45 : decode cX7_compare 45 = .ok (.iload_n 2, 1) := by decide +kernel
theorem dX7_compare_46 : decode cX7_compare 46 = .ok (.invokevirtual 178, 3) := by decide +kernel
theorem dX7_compare_49 : decode cX7_compare 49 = .ok (.istore 4, 2) := by decide +kernel
theorem dX7_compare_51 : decode cX7_compare 51 = .ok (.iload_n 3, 1) := by decide +kernel
theorem dX7_compare_52 : decode cX7_compare 52 = .ok (.iload 4, 2) := by decide +kernel
theorem dX7_compare_54 : decode cX7_compare 54 = .ok (.if_icmp .ne 5, 3) := by decide +kernel
theorem dX7_compare_57 : decode cX7_compare 57 = .ok (.iconst 0, 1) := by decide +kernel
theorem dX7_compare_58 : decode cX7_compare 58 = .ok (.ireturn, 1) := by decide +kernel
theorem dX7_compare_59 : decode cX7_compare 59 = .ok (.iload_n 3, 1) := by decide +kernel
theorem dX7_compare_60 : decode cX7_compare 60 = .ok (.iload 4, 2) := by decide +kernel
theorem dX7_compare_62 : decode cX7_compare 62 = .ok (.iand, 1) := by decide +kernel
theorem dX7_compare_63 : decode cX7_compare 63 = .ok (.iload_n 3, 1) := by decide +kernel
theorem dX7_compare_64 : decode cX7_compare 64 = .ok (.if_icmp .ne 5, 3) := by decide +kernel
theorem dX7_compare_67 : decode cX7_compare 67 = .ok (.iconst 1, 1) := by decide +kernel
theorem dX7_compare_68 : decode cX7_compare 68 = .ok (.ireturn, 1) := by decide +kernel
theorem dX7_compare_69 : decode cX7_compare 69 = .ok (.iload_n 3, 1) := by decide +kernel
theorem dX7_compare_70 : decode cX7_compare 70 = .ok (.iload 4, 2) := by decide +kernel
theorem dX7_compare_72 : decode cX7_compare 72 = .ok (.iand, 1) := by decide +kernel
theorem dX7_compare_73 : decode cX7_compare 73 = .ok (.iload 4, 2) := by decide +kernel
theorem dX7_compare_75 : decode cX7_compare 75 = .ok (.if_icmp .ne 7, 3) := by decide +kernel
theorem dX7_compare_78 : decode cX7_compare 78 = .ok (.iconst 2, 1) := by decide +kernel
theorem dX7_compare_79 : decode cX7_compare 79 = .ok (.goto 4, 3) := by decide +kernel
theorem dX7_compare_82 : decode cX7_compare 82 = .ok (.iconst 3, 1) := by decide +kernel
theorem dX7_compare_83 : decode cX7_compare 83 = .ok (.ireturn, 1) := by decide +kernel
theorem dX7_count_0 : decode cX7_count 0 = .ok (.iload_n 1, 1) := by decide +kernel
theorem dX7_count_1 : decode cX7_count 1 = .ok (.bipush 8, 2) := by decide +kernel
theorem dX7_count_3 : decode cX7_count 3 = .ok (.invokestatic 166, 3) := by decide +kernel
theorem dX7_count_6 : decode cX7_count 6 = .ok (.iload_n 1, 1) := by decide +kernel
theorem dX7_count_7 : decode cX7_count 7 = .ok (.tableswitch 130 0 7 #[45, 53, 61, 72, 98, 106, 114, 122], 45) := by decide +kernel
theorem dX7_count_52 : decode cX7_count 52 = .ok (.aload_n 0, 1) := by decide +kernel
theorem dX7_count_53 : decode cX7_count 53 = .ok (.getfield 10, 3) := by decide +kernel
theorem dX7_count_56 : decode cX7_count 56 = .ok (.getfield 62, 3) := by decide +kernel
theorem dX7_count_59 : decode cX7_count 59 = .ok (.ireturn, 1) := by decide +kernel
theorem dX7_count_60 : decode cX7_count 60 = .ok (.aload_n 0, 1) := by decide +kernel
theorem dX7_count_61 : decode cX7_count 61 = .ok (.getfield 10, 3) := by decide +kernel
theorem dX7_count_64 : decode cX7_count 64 = .ok (.invokevirtual 109, 3) := by decide +kernel
theorem dX7_count_67 : decode cX7_count 67 = .ok (.ireturn, 1) := by decide +kernel
theorem dX7_count_68 : decode cX7_count 68 = .ok (.aload_n 0, 1) := by decide +kernel
theorem dX7_count_69 : decode cX7_count 69 = .ok (.getfield 35, 3) := by decide +kernel
theorem dX7_count_72 : decode cX7_count 72 = .ok (.invokevirtual 172, 3) := by decide +kernel
theorem dX7_count_75 : decode cX7_count 75 = .ok (.invokestatic 200, 3) := by decide +kernel
theorem dX7_count_78 : decode cX7_count 78 = .ok (.ireturn, 1) := by decide +kernel
theorem dX7_count_79 : decode cX7_count 79 = .ok (.aload_n 0, 1) := by decide +kernel
theorem dX7_count_80 : decode cX7_count 80 = .ok (.getfield 10, 3) := by decide +kernel
theorem dX7_count_83 : decode cX7_count 83 = .ok (.getfield 62, 3) := by decide +kernel
theorem dX7_count_86 : decode cX7_count 86 = .ok (.aload_n 0, 1) := by decide +kernel
theorem dX7_count_87 : decode cX7_count 87 = .ok (.getfield 10, 3) := by decide +kernel
theorem dX7_count_90 : decode cX7_count 90 = .ok (.aload_n 0, 1) := by decide +kernel
theorem dX7_count_91 : decode cX7_count 91 = .ok (.getfield 10, 3) := by decide +kernel
theorem dX7_count_94 : decode cX7_count 94 = .ok (.invokevirtual 205, 3) := by decide +kernel
theorem dX7_count_97 : decode cX7_count 97 = .ok (.invokevirtual 169, 3) := by decide +kernel
theorem dX7_count_100 : decode cX7_count 100 = .ok (.invokestatic 200, 3) := by decide +kernel
theorem dX7_count_103 : decode cX7_count 103 = .ok (.isub, 1) := by decide +kernel
theorem dX7_count_104 : decode cX7_count 104 = .ok (.ireturn, 1) := by decide +kernel
theorem dX7_count_105 : decode cX7_count 105 = .ok (.aload_n 0, 1) := by decide +kernel
theorem dX7_count_106 : decode cX7_count 106 = .ok (.getfield 10, 3) := by decide +kernel
theorem dX7_count_109 : decode cX7_count 109 = .ok (.getfield 103, 3) := by decide +kernel
theorem dX7_count_112 : decode cX7_count 112 = .ok (.ireturn, 1) := by decide +kernel
theorem dX7_count_113 : decode cX7_count 113 = .ok (.aload_n 0, 1) := by decide +kernel
theorem dX7_count_114 : decode cX7_count 114 = .ok (.getfield 10, 3) := by decide +kernel
theorem dX7_count_117 : decode cX7_count 117 = .ok (.invokevirtual 208, 3) := by decide +kernel
theorem dX7_count_120 : decode cX7_count 120 = .ok (.ireturn, 1) := by decide +kernel
theorem dX7_count_121 : decode cX7_count 121 = .ok (.aload_n 0, 1) := by decide +kernel
theorem dX7_count_122 : decode cX7_count 122 = .ok (.getfield 10, 3) := by decide +kernel
theorem dX7_count_125 : decode cX7_count 125 = .ok (.invokevirtual 211, 3) := by decide +kernel
theorem dX7_count_128 : decode cX7_count 128 = .ok (.ireturn, 1) := by decide +kernel
theorem dX7_count_129 : decode cX7_count 129 = .ok (.aload_n 0, 1) := by decide +kernel
theorem dX7_count_130 : decode cX7_count 130 = .ok (.invokevirtual 214, 3) := by decide +kernel
theorem dX7_count_133 : decode cX7_count 133 = .ok (.invokestatic 200, 3) := by decide +kernel
theorem dX7_count_136 : decode cX7_count 136 = .ok (.ireturn, 1) := by decide +kernel
theorem dX7_count_137 : decode cX7_count 137 = .ok (.aload_n 0, 1) := by decide +kernel
theorem dX7_count_138 : decode cX7_count 138 = .ok (.getfield 19, 3) := by decide +kernel
theorem dX7_count_141 : decode cX7_count 141 = .ok (.getfield 158, 3) := by decide +kernel
theorem dX7_count_144 : decode cX7_count 144 = .ok (.ireturn, 1) := by decide +kernel
theorem dX7_fixes_0 : decode cX7_fixes 0 = .ok (.iload_n 1, 1) := by decide +kernel
theorem dX7_fixes_1 : decode cX7_fixes 1 = .ok (.invokestatic 127, 3) := by decide +kernel
theorem dX7_fixes_4 : decode cX7_fixes 4 = .ok (.aload_n 0, 1) := by decide +kernel
theorem dX7_fixes_5 : decode cX7_fixes 5 = .ok (.iload_n 2, 1) := by decide +kernel
theorem dX7_fixes_6 : decode cX7_fixes 6 = .ok (.invokevirtual 78, 3) := by decide +kernel
theorem dX7_fixes_9 : decode cX7_fixes 9 = .ok (.iload_n 3, 1) := by decide +kernel
theorem dX7_fixes_10 : decode cX7_fixes 10 = .ok (.iconst 3, 1) := by decide +kernel
theorem dX7_fixes_11 : decode cX7_fixes 11 = .ok (.invokestatic 166, 3) := by decide +kernel
theorem dX7_fixes_14 : decode cX7_fixes 14 = .ok (.iload_n 3, 1) := by decide +kernel
theorem dX7_fixes_15 : decode cX7_fixes 15 = .ok (.iconst 2, 1) := by decide +kernel
theorem dX7_fixes_16 : decode cX7_fixes 16 = .ok (.if_icmp .ge 19, 3) := by decide +kernel
theorem dX7_fixes_19 : decode cX7_fixes 19 = .ok (.aload_n 0, 1) := by decide +kernel
theorem dX7_fixes_20 : decode cX7_fixes 20 = .ok (.getfield 51, 3) := by decide +kernel
theorem dX7_fixes_23 : decode cX7_fixes 23 = .ok (.aload_n 0, 1) := by decide +kernel
theorem dX7_fixes_24 : decode cX7_fixes 24 = .ok (.getfield 10, 3) := by decide +kernel
theorem dX7_fixes_27 : decode cX7_fixes 27 = .ok (.iload_n 1, 1) := by decide +kernel
theorem dX7_fixes_28 : decode cX7_fixes 28 = .ok (.iload_n 2, 1) := by decide +kernel
theorem dX7_fixes_29 : decode cX7_fixes 29 = .ok (.invokevirtual 217, 3) := by decide +kernel
theorem dX7_fixes_32 : decode cX7_fixes 32 = .ok (.goto 16, 3) := by decide +kernel
theorem dX7_fixes_35 : decode cX7_fixes 35 = .ok (.aload_n 0, 1) := by decide +kernel
theorem dX7_fixes_36 : decode cX7_fixes 36 = .ok (.getfield 51, 3) := by decide +kernel
theorem dX7_fixes_39 : decode cX7_fixes 39 = .ok (.aload_n 0, 1) := by decide +kernel
theorem dX7_fixes_40 : decode cX7_fixes 40 = .ok (.getfield 10, 3) := by decide +kernel
theorem dX7_fixes_43 : decode cX7_fixes 43 = .ok (.iload_n 1, 1) := by decide +kernel
theorem dX7_fixes_44 : decode cX7_fixes 44 = .ok (.iload_n 2, 1) := by decide +kernel
theorem dX7_fixes_45 : decode cX7_fixes 45 = .ok (.invokevirtual 221, 3) := by decide +kernel
theorem dX7_fixes_48 : decode cX7_fixes 48 = .ok (.iload_n 3, 1) := by decide +kernel
theorem dX7_fixes_49 : decode cX7_fixes 49 = .ok (.iconst 1, 1) := by decide +kernel
theorem dX7_fixes_50 : decode cX7_fixes 50 = .ok (.iand, 1) := by decide +kernel
theorem dX7_fixes_51 : decode cX7_fixes 51 = .ok (.ifCond .ne 13, 3) := by decide +kernel
theorem dX7_fixes_54 : decode cX7_fixes 54 = .ok (.aload_n 0, 1) := by decide +kernel
theorem dX7_fixes_55 : decode cX7_fixes 55 = .ok (.getfield 51, 3) := by decide +kernel
theorem dX7_fixes_58 : decode cX7_fixes 58 = .ok (.getfield 224, 3) := by decide +kernel
theorem dX7_fixes_61 : decode cX7_fixes 61 = .ok (.goto 10, 3) := by decide +kernel
theorem dX7_fixes_64 : decode cX7_fixes 64 = .ok (.aload_n 0, 1) := by decide +kernel
theorem dX7_fixes_65 : decode cX7_fixes 65 = .ok (.getfield 51, 3) := by decide +kernel
theorem dX7_fixes_68 : decode cX7_fixes 68 = .ok (.getfield 227, 3) := by decide +kernel
theorem dX7_fixes_71 : decode cX7_fixes 71 = .ok (.ireturn, 1) := by decide +kernel
theorem dX7_ifFair_0 : decode cX7_ifFair 0 = .ok (.iload_n 1, 1) := by decide +kernel
theorem dX7_ifFair_1 : decode cX7_ifFair 1 = .ok (.invokestatic 127, 3) := by decide +kernel
theorem dX7_ifFair_4 : decode cX7_ifFair 4 = .ok (.iload_n 2, 1) := by decide +kernel
theorem dX7_ifFair_5 : decode cX7_ifFair 5 = .ok (.invokestatic 100, 3) := by decide +kernel
theorem dX7_ifFair_8 : decode cX7_ifFair 8 = .ok (.aload_n 0, 1) := by decide +kernel
theorem dX7_ifFair_9 : decode cX7_ifFair 9 = .ok (.getfield 51, 3) := by decide +kernel
theorem dX7_ifFair_12 : decode cX7_ifFair 12 = .ok (.aload_n 0, 1) := by decide +kernel
theorem dX7_ifFair_13 : decode cX7_ifFair 13 = .ok (.getfield 10, 3) := by decide +kernel
theorem dX7_ifFair_16 : decode cX7_ifFair 16 = .ok (.iload_n 1, 1) := by decide +kernel
theorem dX7_ifFair_17 : decode cX7_ifFair 17 = .ok (.iload_n 2, 1) := by decide +kernel
theorem dX7_ifFair_18 : decode cX7_ifFair 18 = .ok (.invokevirtual 230, 3) := by decide +kernel
theorem dX7_ifFair_21 : decode cX7_ifFair 21 = .ok (.ireturn, 1) := by decide +kernel
theorem dX7_fulfilled_0 : decode cX7_fulfilled 0 = .ok (.iconst 0, 1) := by decide +kernel
theorem dX7_fulfilled_1 : decode cX7_fulfilled 1 = .ok (.istore_n 1, 1) := by decide +kernel
theorem dX7_fulfilled_2 : decode cX7_fulfilled 2 = .ok (.iconst 0, 1) := by decide +kernel
theorem dX7_fulfilled_3 : decode cX7_fulfilled 3 = .ok (.istore_n 2, 1) := by decide +kernel
theorem dX7_fulfilled_4 : decode cX7_fulfilled 4 = .ok (.iconst 0, 1) := by decide +kernel
theorem dX7_fulfilled_5 : decode cX7_fulfilled 5 = .ok (.istore_n 3, 1) := by decide +kernel
theorem dX7_fulfilled_6 : decode cX7_fulfilled 6 = .ok (.iload_n 3, 1) := by decide +kernel
theorem dX7_fulfilled_7 : decode cX7_fulfilled 7 = .ok (.iconst 4, 1) := by decide +kernel
theorem dX7_fulfilled_8 : decode cX7_fulfilled 8 = .ok (.if_icmp .ge 44, 3) := by decide +kernel
theorem dX7_fulfilled_11 : decode cX7_fulfilled 11 = .ok (.aload_n 0, 1) := by decide +kernel
theorem dX7_fulfilled_12 : decode cX7_fulfilled 12 = .ok (.getfield 10, 3) := by decide +kernel
theorem dX7_fulfilled_15 : decode cX7_fulfilled 15 = .ok (.iload_n 3, 1) := by decide +kernel
theorem dX7_fulfilled_16 : decode cX7_fulfilled 16 = .ok (.invokevirtual 140, 3) := by decide +kernel
theorem dX7_fulfilled_19 : decode cX7_fulfilled 19 = .ok (.ifCond .le 27, 3) := by decide +kernel
theorem dX7_fulfilled_22 : decode cX7_fulfilled 22 = .ok (.iload_n 1, 1) := by decide +kernel
theorem dX7_fulfilled_23 : decode cX7_fulfilled 23 = .ok (.aload_n 0, 1) := by decide +kernel
theorem dX7_fulfilled_24 : decode cX7_fulfilled 24 = .ok (.getfield 10, 3) := by decide +kernel
theorem dX7_fulfilled_27 : decode cX7_fulfilled 27 = .ok (.getfield 62, 3) := by decide +kernel
theorem dX7_fulfilled_30 : decode cX7_fulfilled 30 = .ok (.iadd, 1) := by decide +kernel
theorem dX7_fulfilled_31 : decode cX7_fulfilled 31 = .ok (.istore_n 1, 1) := by decide +kernel
theorem dX7_fulfilled_32 : decode cX7_fulfilled 32 = .ok (.iload_n 2, 1) := by decide +kernel
theorem dX7_fulfilled_33 : decode cX7_fulfilled 33 = .ok (.aload_n 0, 1) := by decide +kernel
theorem dX7_fulfilled_34 : decode cX7_fulfilled 34 = .ok (.getfield 35, 3) := by decide +kernel
theorem dX7_fulfilled_37 : decode cX7_fulfilled 37 = .ok (.iload_n 3, 1) := by decide +kernel
theorem dX7_fulfilled_38 : decode cX7_fulfilled 38 = .ok (.invokevirtual 178, 3) := by decide +kernel
theorem dX7_fulfilled_41 : decode cX7_fulfilled 41 = .ok (.invokestatic 200, 3) := by decide +kernel
theorem dX7_fulfilled_44 : decode cX7_fulfilled 44 = .ok (.iadd, 1) := by decide +kernel
theorem dX7_fulfilled_45 : decode cX7_fulfilled 45 = .ok (.istore_n 2, 1) := by decide +kernel
theorem dX7_fulfilled_46 : decode cX7_fulfilled 46 = .ok (.iinc 3 1, 3) := by decide +kernel
theorem dX7_fulfilled_49 : decode cX7_fulfilled 49 = .ok (.goto (-43), 3) := by decide +kernel
theorem dX7_fulfilled_52 : decode cX7_fulfilled 52 = .ok (.iload_n 1, 1) := by decide +kernel
theorem dX7_fulfilled_53 : decode cX7_fulfilled 53 = .ok (.ifCond .ne 7, 3) := by decide +kernel
theorem dX7_fulfilled_56 : decode cX7_fulfilled 56 = .ok (.dconst 1, 1) := by decide +kernel
theorem dX7_fulfilled_57 : decode cX7_fulfilled 57 = .ok (.goto 8, 3) := by decide +kernel
theorem dX7_fulfilled_60 : decode cX7_fulfilled 60 = .ok (.iload_n 2, 1) := by decide +kernel
theorem dX7_fulfilled_61 : decode cX7_fulfilled 61 = .ok (.i2d, 1) := by decide +kernel
theorem dX7_fulfilled_62 : decode cX7_fulfilled 62 = .ok (.iload_n 1, 1) := by decide +kernel
theorem dX7_fulfilled_63 : decode cX7_fulfilled 63 = .ok (.i2d, 1) := by decide +kernel
theorem dX7_fulfilled_64 : decode cX7_fulfilled 64 = .ok (.ddiv, 1) := by decide +kernel
theorem dX7_fulfilled_65 : decode cX7_fulfilled 65 = .ok (.dreturn, 1) := by decide +kernel
theorem dX7_digest_0 : decode cX7_digest 0 = .ok (.ldc2_w 234, 3) := by decide +kernel
theorem dX7_digest_3 : decode cX7_digest 3 = .ok (.lstore_n 1, 1) := by decide +kernel
theorem dX7_digest_4 : decode cX7_digest 4 = .ok (.iconst 0, 1) := by decide +kernel
theorem dX7_digest_5 : decode cX7_digest 5 = .ok (.istore_n 3, 1) := by decide +kernel
theorem dX7_digest_6 : decode cX7_digest 6 = .ok (.iload_n 3, 1) := by decide +kernel
theorem dX7_digest_7 : decode cX7_digest 7 = .ok (.bipush 8, 2) := by decide +kernel
theorem dX7_digest_9 : decode cX7_digest 9 = .ok (.if_icmp .gt 20, 3) := by decide +kernel
theorem dX7_digest_12 : decode cX7_digest 12 = .ok (.lload_n 1, 1) := by decide +kernel
theorem dX7_digest_13 : decode cX7_digest 13 = .ok (.aload_n 0, 1) := by decide +kernel
theorem dX7_digest_14 : decode cX7_digest 14 = .ok (.iload_n 3, 1) := by decide +kernel
theorem dX7_digest_15 : decode cX7_digest 15 = .ok (.invokevirtual 236, 3) := by decide +kernel
theorem dX7_digest_18 : decode cX7_digest 18 = .ok (.i2l, 1) := by decide +kernel
theorem dX7_digest_19 : decode cX7_digest 19 = .ok (.invokestatic 239, 3) := by decide +kernel
theorem dX7_digest_22 : decode cX7_digest 22 = .ok (.lstore_n 1, 1) := by decide +kernel
theorem dX7_digest_23 : decode cX7_digest 23 = .ok (.iinc 3 1, 3) := by decide +kernel
theorem dX7_digest_26 : decode cX7_digest 26 = .ok (.goto (-20), 3) := by decide +kernel
theorem dX7_digest_29 : decode cX7_digest 29 = .ok (.iconst 0, 1) := by decide +kernel
theorem dX7_digest_30 : decode cX7_digest 30 = .ok (.istore_n 3, 1) := by decide +kernel
theorem dX7_digest_31 : decode cX7_digest 31 = .ok (.iload_n 3, 1) := by decide +kernel
theorem dX7_digest_32 : decode cX7_digest 32 = .ok (.aload_n 0, 1) := by decide +kernel
theorem dX7_digest_33 : decode cX7_digest 33 = .ok (.getfield 10, 3) := by decide +kernel
theorem dX7_digest_36 : decode cX7_digest 36 = .ok (.getfield 62, 3) := by decide +kernel
theorem dX7_digest_39 : decode cX7_digest 39 = .ok (.if_icmp .ge 37, 3) := by decide +kernel
theorem dX7_digest_42 : decode cX7_digest 42 = .ok (.iconst 0, 1) := by decide +kernel
theorem dX7_digest_43 : decode cX7_digest 43 = .ok (.istore 4, 2) := by decide +kernel
theorem dX7_digest_45 : decode cX7_digest 45 = .ok (.iload 4, 2) := by decide +kernel
theorem dX7_digest_47 : decode cX7_digest 47 = .ok (.iconst 4, 1) := by decide +kernel
theorem dX7_digest_48 : decode cX7_digest 48 = .ok (.if_icmp .gt 22, 3) := by decide +kernel
theorem dX7_digest_51 : decode cX7_digest 51 = .ok (.lload_n 1, 1) := by decide +kernel
theorem dX7_digest_52 : decode cX7_digest 52 = .ok (.aload_n 0, 1) := by decide +kernel
theorem dX7_digest_53 : decode cX7_digest 53 = .ok (.iload_n 3, 1) := by decide +kernel
theorem dX7_digest_54 : decode cX7_digest 54 = .ok (.iload 4, 2) := by decide +kernel
theorem dX7_digest_56 : decode cX7_digest 56 = .ok (.invokevirtual 243, 3) := by decide +kernel
theorem dX7_digest_59 : decode cX7_digest 59 = .ok (.i2l, 1) := by decide +kernel
theorem dX7_digest_60 : decode cX7_digest 60 = .ok (.invokestatic 239, 3) := by decide +kernel
theorem dX7_digest_63 : decode cX7_digest 63 = .ok (.lstore_n 1, 1) := by decide +kernel
theorem dX7_digest_64 : decode cX7_digest 64 = .ok (.iinc 4 1, 3) := by decide +kernel
theorem dX7_digest_67 : decode cX7_digest 67 = .ok (.goto (-22), 3) := by decide +kernel
theorem dX7_digest_70 : decode cX7_digest 70 = .ok (.iinc 3 1, 3) := by decide +kernel
theorem dX7_digest_73 : decode cX7_digest 73 = .ok (.goto (-42), 3) := by decide +kernel
theorem dX7_digest_76 : decode cX7_digest 76 = .ok (.iconst 0, 1) := by decide +kernel
theorem dX7_digest_77 : decode cX7_digest 77 = .ok (.istore_n 3, 1) := by decide +kernel
theorem dX7_digest_78 : decode cX7_digest 78 = .ok (.iload_n 3, 1) := by decide +kernel
theorem dX7_digest_79 : decode cX7_digest 79 = .ok (.iconst 4, 1) := by decide +kernel
theorem dX7_digest_80 : decode cX7_digest 80 = .ok (.if_icmp .ge 113, 3) := by decide +kernel
theorem dX7_digest_83 : decode cX7_digest 83 = .ok (.aload_n 0, 1) := by decide +kernel
theorem dX7_digest_84 : decode cX7_digest 84 = .ok (.getfield 35, 3) := by decide +kernel
theorem dX7_digest_87 : decode cX7_digest 87 = .ok (.iload_n 3, 1) := by decide +kernel
theorem dX7_digest_88 : decode cX7_digest 88 = .ok (.invokevirtual 178, 3) := by decide +kernel
theorem dX7_digest_91 : decode cX7_digest 91 = .ok (.pop, 1) := by decide +kernel
theorem dX7_digest_92 : decode cX7_digest 92 = .ok (.aload_n 0, 1) := by decide +kernel
theorem dX7_digest_93 : decode cX7_digest 93 = .ok (.lload_n 1, 1) := by decide +kernel
theorem dX7_digest_94 : decode cX7_digest 94 = .ok (.invokevirtual 246, 3) := by decide +kernel
theorem dX7_digest_97 : decode cX7_digest 97 = .ok (.lstore_n 1, 1) := by decide +kernel
theorem dX7_digest_98 : decode cX7_digest 98 = .ok (.iconst 0, 1) := by decide +kernel
theorem dX7_digest_99 : decode cX7_digest 99 = .ok (.istore 4, 2) := by decide +kernel
theorem dX7_digest_101 : decode cX7_digest 101 = .ok (.iload 4, 2) := by decide +kernel
theorem dX7_digest_103 : decode cX7_digest 103 = .ok (.aload_n 0, 1) := by decide +kernel
theorem dX7_digest_104 : decode cX7_digest 104 = .ok (.getfield 10, 3) := by decide +kernel
theorem dX7_digest_107 : decode cX7_digest 107 = .ok (.getfield 62, 3) := by decide +kernel
theorem dX7_digest_110 : decode cX7_digest 110 = .ok (.if_icmp .ge 24, 3) := by decide +kernel
theorem dX7_digest_113 : decode cX7_digest 113 = .ok (.aload_n 0, 1) := by decide +kernel
theorem dX7_digest_114 : decode cX7_digest 114 = .ok (.getfield 44, 3) := by decide +kernel
theorem dX7_digest_117 : decode cX7_digest 117 = .ok (.iload 4, 2) := by decide +kernel
theorem dX7_digest_119 : decode cX7_digest 119 = .ok (.invokevirtual 195, 3) := by decide +kernel
theorem dX7_digest_122 : decode cX7_digest 122 = .ok (.aload_n 0, 1) := by decide +kernel
theorem dX7_digest_123 : decode cX7_digest 123 = .ok (.lload_n 1, 1) := by decide +kernel
theorem dX7_digest_124 : decode cX7_digest 124 = .ok (.invokevirtual 250, 3) := by decide +kernel
theorem dX7_digest_127 : decode cX7_digest 127 = .ok (.lstore_n 1, 1) := by decide +kernel
theorem dX7_digest_128 : decode cX7_digest 128 = .ok (.iinc 4 1, 3) := by decide +kernel
theorem dX7_digest_131 : decode cX7_digest 131 = .ok (.goto (-30), 3) := by decide +kernel
theorem dX7_digest_134 : decode cX7_digest 134 = .ok (.lload_n 1, 1) := by decide +kernel
theorem dX7_digest_135 : decode cX7_digest 135 = .ok (.aload_n 0, 1) := by decide +kernel
theorem dX7_digest_136 : decode cX7_digest 136 = .ok (.iload_n 3, 1) := by decide +kernel
theorem dX7_digest_137 : decode cX7_digest 137 = .ok (.iconst 0, 1) := by decide +kernel
theorem dX7_digest_138 : decode cX7_digest 138 = .ok (.invokevirtual 253, 3) := by decide +kernel
theorem dX7_digest_141 : decode cX7_digest 141 = .ok (.i2l, 1) := by decide +kernel
theorem dX7_digest_142 : decode cX7_digest 142 = .ok (.invokestatic 239, 3) := by decide +kernel
theorem dX7_digest_145 : decode cX7_digest 145 = .ok (.lstore_n 1, 1) := by decide +kernel
theorem dX7_digest_146 : decode cX7_digest 146 = .ok (.lload_n 1, 1) := by decide +kernel
theorem dX7_digest_147 : decode cX7_digest 147 = .ok (.aload_n 0, 1) := by decide +kernel
theorem dX7_digest_148 : decode cX7_digest 148 = .ok (.iload_n 3, 1) := by decide +kernel
theorem dX7_digest_149 : decode cX7_digest 149 = .ok (.iconst (-1), 1) := by decide +kernel
theorem dX7_digest_150 : decode cX7_digest 150 = .ok (.invokevirtual 256, 3) := by decide +kernel
theorem dX7_digest_153 : decode cX7_digest 153 = .ok (.i2l, 1) := by decide +kernel
theorem dX7_digest_154 : decode cX7_digest 154 = .ok (.invokestatic 239, 3) := by decide +kernel
theorem dX7_digest_157 : decode cX7_digest 157 = .ok (.lstore_n 1, 1) := by decide +kernel
theorem dX7_digest_158 : decode cX7_digest 158 = .ok (.lload_n 1, 1) := by decide +kernel
theorem dX7_digest_159 : decode cX7_digest 159 = .ok (.aload_n 0, 1) := by decide +kernel
theorem dX7_digest_160 : decode cX7_digest 160 = .ok (.iload_n 3, 1) := by decide +kernel
theorem dX7_digest_161 : decode cX7_digest 161 = .ok (.iconst 0, 1) := by decide +kernel
theorem dX7_digest_162 : decode cX7_digest 162 = .ok (.invokevirtual 256, 3) := by decide +kernel
theorem dX7_digest_165 : decode cX7_digest 165 = .ok (.i2l, 1) := by decide +kernel
theorem dX7_digest_166 : decode cX7_digest 166 = .ok (.invokestatic 239, 3) := by decide +kernel
theorem dX7_digest_169 : decode cX7_digest 169 = .ok (.lstore_n 1, 1) := by decide +kernel
theorem dX7_digest_170 : decode cX7_digest 170 = .ok (.aload_n 0, 1) := by decide +kernel
theorem dX7_digest_171 : decode cX7_digest 171 = .ok (.getfield 10, 3) := by decide +kernel
theorem dX7_digest_174 : decode cX7_digest 174 = .ok (.getfield 62, 3) := by decide +kernel
theorem dX7_digest_177 : decode cX7_digest 177 = .ok (.ifCond .le 10, 3) := by decide +kernel
theorem dX7_digest_180 : decode cX7_digest 180 = .ok (.aload_n 0, 1) := by decide +kernel
theorem dX7_digest_181 : decode cX7_digest 181 = .ok (.lload_n 1, 1) := by decide +kernel
theorem dX7_digest_182 : decode cX7_digest 182 = .ok (.iload_n 3, 1) := by decide +kernel
theorem dX7_digest_183 : decode cX7_digest 183 = .ok (.invokevirtual 259, 3) := by decide +kernel
theorem dX7_digest_186 : decode cX7_digest 186 = .ok (.lstore_n 1, 1) := by decide +kernel
theorem dX7_digest_187 : decode cX7_digest 187 = .ok (.iinc 3 1, 3) := by decide +kernel
theorem dX7_digest_190 : decode cX7_digest 190 = .ok (.goto (-112), 3) := by decide +kernel
theorem dX7_digest_193 : decode cX7_digest 193 = .ok (.lload_n 1, 1) := by decide +kernel
theorem dX7_digest_194 : decode cX7_digest 194 = .ok (.aload_n 0, 1) := by decide +kernel
theorem dX7_digest_195 : decode cX7_digest 195 = .ok (.invokevirtual 263, 3) := by decide +kernel
theorem dX7_digest_198 : decode cX7_digest 198 = .ok (.invokestatic 267, 3) := by decide +kernel
theorem dX7_digest_201 : decode cX7_digest 201 = .ok (.invokestatic 239, 3) := by decide +kernel
theorem dX7_digest_204 : decode cX7_digest 204 = .ok (.lstore_n 1, 1) := by decide +kernel
theorem dX7_digest_205 : decode cX7_digest 205 = .ok (.lload_n 1, 1) := by decide +kernel
theorem dX7_digest_206 : decode cX7_digest 206 = .ok (.aload_n 0, 1) := by decide +kernel
theorem dX7_digest_207 : decode cX7_digest 207 = .ok (.getfield 26, 3) := by decide +kernel
theorem dX7_digest_210 : decode cX7_digest 210 = .ok (.getfield 115, 3) := by decide +kernel
theorem dX7_digest_213 : decode cX7_digest 213 = .ok (.i2l, 1) := by decide +kernel
theorem dX7_digest_214 : decode cX7_digest 214 = .ok (.invokestatic 239, 3) := by decide +kernel
theorem dX7_digest_217 : decode cX7_digest 217 = .ok (.lstore_n 1, 1) := by decide +kernel
theorem dX7_digest_218 : decode cX7_digest 218 = .ok (.iconst 0, 1) := by decide +kernel
theorem dX7_digest_219 : decode cX7_digest 219 = .ok (.istore_n 3, 1) := by decide +kernel
theorem dX7_digest_220 : decode cX7_digest 220 = .ok (.iload_n 3, 1) := by decide +kernel
theorem dX7_digest_221 : decode cX7_digest 221 = .ok (.aload_n 0, 1) := by decide +kernel
theorem dX7_digest_222 : decode cX7_digest 222 = .ok (.getfield 26, 3) := by decide +kernel
theorem dX7_digest_225 : decode cX7_digest 225 = .ok (.getfield 115, 3) := by decide +kernel
theorem dX7_digest_228 : decode cX7_digest 228 = .ok (.if_icmp .ge 23, 3) := by decide +kernel
theorem dX7_digest_231 : decode cX7_digest 231 = .ok (.lload_n 1, 1) := by decide +kernel
theorem dX7_digest_232 : decode cX7_digest 232 = .ok (.aload_n 0, 1) := by decide +kernel
theorem dX7_digest_233 : decode cX7_digest 233 = .ok (.getfield 26, 3) := by decide +kernel
theorem dX7_digest_236 : decode cX7_digest 236 = .ok (.iload_n 3, 1) := by decide +kernel
theorem dX7_digest_237 : decode cX7_digest 237 = .ok (.invokevirtual 271, 3) := by decide +kernel
theorem dX7_digest_240 : decode cX7_digest 240 = .ok (.i2l, 1) := by decide +kernel
theorem dX7_digest_241 : decode cX7_digest 241 = .ok (.invokestatic 239, 3) := by decide +kernel
theorem dX7_digest_244 : decode cX7_digest 244 = .ok (.lstore_n 1, 1) := by decide +kernel
theorem dX7_digest_245 : decode cX7_digest 245 = .ok (.iinc 3 1, 3) := by decide +kernel
theorem dX7_digest_248 : decode cX7_digest 248 = .ok (.goto (-28), 3) := by decide +kernel
theorem dX7_digest_251 : decode cX7_digest 251 = .ok (.lload_n 1, 1) := by decide +kernel
theorem dX7_digest_252 : decode cX7_digest 252 = .ok (.lreturn, 1) := by decide +kernel
theorem dX7_needWorld_0 : decode cX7_needWorld 0 = .ok (.aload_n 0, 1) := by decide +kernel
theorem dX7_needWorld_1 : decode cX7_needWorld 1 = .ok (.getfield 10, 3) := by decide +kernel
theorem dX7_needWorld_4 : decode cX7_needWorld 4 = .ok (.iload_n 1, 1) := by decide +kernel
theorem dX7_needWorld_5 : decode cX7_needWorld 5 = .ok (.invokevirtual 274, 3) := by decide +kernel
theorem dX7_needWorld_8 : decode cX7_needWorld 8 = .ok (.ifCond .ne 14, 3) := by decide +kernel
theorem dX7_needWorld_11 : decode cX7_needWorld 11 = .ok (.new 184, 3) := by decide +kernel
theorem dX7_needWorld_14 : decode cX7_needWorld 14 = .ok (.dup, 1) := by decide +kernel
theorem dX7_needWorld_15 : decode cX7_needWorld 15 = .ok (.ldc_w 278, 3) := by decide +kernel
theorem dX7_needWorld_18 : decode cX7_needWorld 18 = .ok (.invokespecial 188, 3) := by decide +kernel
theorem dX7_needWorld_21 : decode cX7_needWorld 21 = .ok (.athrow, 1) := by decide +kernel
theorem dX7_needWorld_22 : decode cX7_needWorld 22 = .ok (.return_, 1) := by decide +kernel
theorem dX7_needWish_0 : decode cX7_needWish 0 = .ok (.iload_n 0, 1) := by decide +kernel
theorem dX7_needWish_1 : decode cX7_needWish 1 = .ok (.ifCond .lt 8, 3) := by decide +kernel
theorem dX7_needWish_4 : decode cX7_needWish 4 = .ok (.iload_n 0, 1) := by decide +kernel
theorem dX7_needWish_5 : decode cX7_needWish 5 = .ok (.iconst 4, 1) := by decide +kernel
theorem dX7_needWish_6 : decode cX7_needWish 6 = .ok (.if_icmp .lt 14, 3) := by decide +kernel
theorem dX7_needWish_9 : decode cX7_needWish 9 = .ok (.new 184, 3) := by decide +kernel
theorem dX7_needWish_12 : decode cX7_needWish 12 = .ok (.dup, 1) := by decide +kernel
theorem dX7_needWish_13 : decode cX7_needWish 13 = .ok (.ldc_w 280, 3) := by decide +kernel
theorem dX7_needWish_16 : decode cX7_needWish 16 = .ok (.invokespecial 188, 3) := by decide +kernel
theorem dX7_needWish_19 : decode cX7_needWish 19 = .ok (.athrow, 1) := by decide +kernel
theorem dX7_needWish_20 : decode cX7_needWish 20 = .ok (.return_, 1) := by decide +kernel
theorem dX7_needLetterOrNone_0 : decode cX7_needLetterOrNone 0 = .ok (.iload_n 0, 1) := by decide +kernel
theorem dX7_needLetterOrNone_1 : decode cX7_needLetterOrNone 1 = .ok (.iconst (-1), 1) := by decide +kernel
theorem dX7_needLetterOrNone_2 : decode cX7_needLetterOrNone 2 = .ok (.if_icmp .eq 23, 3) := by decide +kernel
theorem dX7_needLetterOrNone_5 : decode cX7_needLetterOrNone 5 = .ok (.iload_n 0, 1) := by decide +kernel
theorem dX7_needLetterOrNone_6 : decode cX7_needLetterOrNone 6 = .ok (.ifCond .lt 8, 3) := by decide +kernel
theorem dX7_needLetterOrNone_9 : decode cX7_needLetterOrNone 9 = .ok (.iload_n 0, 1) := by decide +kernel
theorem dX7_needLetterOrNone_10 : decode cX7_needLetterOrNone 10 = .ok (.iconst 4, 1) := by decide +kernel
theorem dX7_needLetterOrNone_11 : decode cX7_needLetterOrNone 11 = .ok (.if_icmp .lt 14, 3) := by decide +kernel
theorem dX7_needLetterOrNone_14 : decode cX7_needLetterOrNone 14 = .ok (.new 55, 3) := by decide +kernel
theorem dX7_needLetterOrNone_17 : decode cX7_needLetterOrNone 17 = .ok (.dup, 1) := by decide +kernel
theorem dX7_needLetterOrNone_18 : decode cX7_needLetterOrNone 18 = .ok (.ldc_w 282, 3) := by decide +kernel
theorem dX7_needLetterOrNone_21 : decode cX7_needLetterOrNone 21 = .ok (.invokespecial 59, 3) := by decide +kernel
theorem dX7_needLetterOrNone_24 : decode cX7_needLetterOrNone 24 = .ok (.athrow, 1) := by decide +kernel
theorem dX7_needLetterOrNone_25 : decode cX7_needLetterOrNone 25 = .ok (.return_, 1) := by decide +kernel
theorem dX7_needLook_0 : decode cX7_needLook 0 = .ok (.iload_n 0, 1) := by decide +kernel
theorem dX7_needLook_1 : decode cX7_needLook 1 = .ok (.ifCond .lt 8, 3) := by decide +kernel
theorem dX7_needLook_4 : decode cX7_needLook 4 = .ok (.iload_n 0, 1) := by decide +kernel
theorem dX7_needLook_5 : decode cX7_needLook 5 = .ok (.iload_n 1, 1) := by decide +kernel
theorem dX7_needLook_6 : decode cX7_needLook 6 = .ok (.if_icmp .le 14, 3) := by decide +kernel
theorem dX7_needLook_9 : decode cX7_needLook 9 = .ok (.new 55, 3) := by decide +kernel
theorem dX7_needLook_12 : decode cX7_needLook 12 = .ok (.dup, 1) := by decide +kernel
theorem dX7_needLook_13 : decode cX7_needLook 13 = .ok (.ldc_w 284, 3) := by decide +kernel
theorem dX7_needLook_16 : decode cX7_needLook 16 = .ok (.invokespecial 59, 3) := by decide +kernel
theorem dX7_needLook_19 : decode cX7_needLook 19 = .ok (.athrow, 1) := by decide +kernel
theorem dX7_needLook_20 : decode cX7_needLook 20 = .ok (.return_, 1) := by decide +kernel
theorem dX7_wishesHoldingIn_0 : decode cX7_wishesHoldingIn 0 = .ok (.iconst 0, 1) := by decide +kernel
theorem dX7_wishesHoldingIn_1 : decode cX7_wishesHoldingIn 1 = .ok (.istore_n 2, 1) := by decide +kernel
theorem dX7_wishesHoldingIn_2 : decode cX7_wishesHoldingIn 2 = .ok (.iconst 0, 1) := by decide +kernel
theorem dX7_wishesHoldingIn_3 : decode cX7_wishesHoldingIn 3 = .ok (.istore_n 3, 1) := by decide +kernel
theorem dX7_wishesHoldingIn_4 : decode cX7_wishesHoldingIn 4 = .ok (.iload_n 3, 1) := by decide +kernel
theorem dX7_wishesHoldingIn_5 : decode cX7_wishesHoldingIn 5 = .ok (.iconst 4, 1) := by decide +kernel
theorem dX7_wishesHoldingIn_6 : decode cX7_wishesHoldingIn 6 = .ok (.if_icmp .ge 37, 3) := by decide +kernel
theorem dX7_wishesHoldingIn_9 : decode cX7_wishesHoldingIn 9 = .ok (.aload_n 0, 1) := by decide +kernel
theorem dX7_wishesHoldingIn_10 : decode cX7_wishesHoldingIn 10 = .ok (.getfield 10, 3) := by decide +kernel
theorem dX7_wishesHoldingIn_13 : decode cX7_wishesHoldingIn 13 = .ok (.iload_n 3, 1) := by decide +kernel
theorem dX7_wishesHoldingIn_14 : decode cX7_wishesHoldingIn 14 = .ok (.invokevirtual 140, 3) := by decide +kernel
theorem dX7_wishesHoldingIn_17 : decode cX7_wishesHoldingIn 17 = .ok (.ifCond .le 20, 3) := by decide +kernel
theorem dX7_wishesHoldingIn_20 : decode cX7_wishesHoldingIn 20 = .ok (.iload_n 2, 1) := by decide +kernel
theorem dX7_wishesHoldingIn_21 : decode cX7_wishesHoldingIn 21 = .ok (.aload_n 0, 1) := by decide +kernel
theorem dX7_wishesHoldingIn_22 : decode cX7_wishesHoldingIn 22 = .ok (.getfield 35, 3) := by decide +kernel
theorem dX7_wishesHoldingIn_25 : decode cX7_wishesHoldingIn 25 = .ok (.iload_n 3, 1) := by decide +kernel
theorem dX7_wishesHoldingIn_26 : decode cX7_wishesHoldingIn 26 = .ok (.invokevirtual 178, 3) := by decide +kernel
theorem dX7_wishesHoldingIn_29 : decode cX7_wishesHoldingIn 29 = .ok (.iload_n 1, 1) := by decide +kernel
theorem dX7_wishesHoldingIn_30 : decode cX7_wishesHoldingIn 30 = .ok (.ishr, 1) := by decide +kernel
theorem dX7_wishesHoldingIn_31 : decode cX7_wishesHoldingIn 31 = .ok (.iconst 1, 1) := by decide +kernel
theorem dX7_wishesHoldingIn_32 : decode cX7_wishesHoldingIn 32 = .ok (.iand, 1) := by decide +kernel
theorem dX7_wishesHoldingIn_33 : decode cX7_wishesHoldingIn 33 = .ok (.iload_n 3, 1) := by decide +kernel
theorem dX7_wishesHoldingIn_34 : decode cX7_wishesHoldingIn 34 = .ok (.ishl, 1) := by decide +kernel
theorem dX7_wishesHoldingIn_35 : decode cX7_wishesHoldingIn 35 = .ok (.ior, 1) := by decide +kernel
theorem dX7_wishesHoldingIn_36 : decode cX7_wishesHoldingIn 36 = .ok (.istore_n 2, 1) := by decide +kernel
theorem dX7_wishesHoldingIn_37 : decode cX7_wishesHoldingIn 37 = .ok (.iinc 3 1, 3) := by decide +kernel
theorem dX7_wishesHoldingIn_40 : decode cX7_wishesHoldingIn 40 = .ok (.goto (-36), 3) := by decide +kernel
theorem dX7_wishesHoldingIn_43 : decode cX7_wishesHoldingIn 43 = .ok (.iload_n 2, 1) := by decide +kernel
theorem dX7_wishesHoldingIn_44 : decode cX7_wishesHoldingIn 44 = .ok (.ireturn, 1) := by decide +kernel
theorem dX7_worldsOfAllWishes_0 : decode cX7_worldsOfAllWishes 0 = .ok (.aload_n 0, 1) := by decide +kernel
theorem dX7_worldsOfAllWishes_1 : decode cX7_worldsOfAllWishes 1 = .ok (.getfield 10, 3) := by decide +kernel
theorem dX7_worldsOfAllWishes_4 : decode cX7_worldsOfAllWishes 4 = .ok (.invokevirtual 205, 3) := by decide +kernel
theorem dX7_worldsOfAllWishes_7 : decode cX7_worldsOfAllWishes 7 = .ok (.istore_n 1, 1) := by decide +kernel
theorem dX7_worldsOfAllWishes_8 : decode cX7_worldsOfAllWishes 8 = .ok (.iconst 0, 1) := by decide +kernel
theorem dX7_worldsOfAllWishes_9 : decode cX7_worldsOfAllWishes 9 = .ok (.istore_n 2, 1) := by decide +kernel
theorem dX7_worldsOfAllWishes_10 : decode cX7_worldsOfAllWishes 10 = .ok (.iload_n 2, 1) := by decide +kernel
theorem dX7_worldsOfAllWishes_11 : decode cX7_worldsOfAllWishes 11 = .ok (.iconst 4, 1) := by decide +kernel
theorem dX7_worldsOfAllWishes_12 : decode cX7_worldsOfAllWishes 12 = .ok (.if_icmp .ge 31, 3) := by decide +kernel
theorem dX7_worldsOfAllWishes_15 : decode cX7_worldsOfAllWishes 15 = .ok (.aload_n 0, 1) := by decide +kernel
theorem dX7_worldsOfAllWishes_16 : decode cX7_worldsOfAllWishes 16 = .ok (.getfield 10, 3) := by decide +kernel
theorem dX7_worldsOfAllWishes_19 : decode cX7_worldsOfAllWishes 19 = .ok (.iload_n 2, 1) := by decide +kernel
theorem dX7_worldsOfAllWishes_20 : decode cX7_worldsOfAllWishes 20 = .ok (.invokevirtual 140, 3) := by decide +kernel
theorem dX7_worldsOfAllWishes_23 : decode cX7_worldsOfAllWishes 23 = .ok (.ifCond .le 14, 3) := by decide +kernel
theorem dX7_worldsOfAllWishes_26 : decode cX7_worldsOfAllWishes 26 = .ok (.iload_n 1, 1) := by decide +kernel
theorem dX7_worldsOfAllWishes_27 : decode cX7_worldsOfAllWishes 27 = .ok (.aload_n 0, 1) := by decide +kernel
theorem dX7_worldsOfAllWishes_28 : decode cX7_worldsOfAllWishes 28 = .ok (.getfield 35, 3) := by decide +kernel
theorem dX7_worldsOfAllWishes_31 : decode cX7_worldsOfAllWishes 31 = .ok (.iload_n 2, 1) := by decide +kernel
theorem dX7_worldsOfAllWishes_32 : decode cX7_worldsOfAllWishes 32 = .ok (.invokevirtual 178, 3) := by decide +kernel
theorem dX7_worldsOfAllWishes_35 : decode cX7_worldsOfAllWishes 35 = .ok (.iand, 1) := by decide +kernel
theorem dX7_worldsOfAllWishes_36 : decode cX7_worldsOfAllWishes 36 = .ok (.istore_n 1, 1) := by decide +kernel
theorem dX7_worldsOfAllWishes_37 : decode cX7_worldsOfAllWishes 37 = .ok (.iinc 2 1, 3) := by decide +kernel
theorem dX7_worldsOfAllWishes_40 : decode cX7_worldsOfAllWishes 40 = .ok (.goto (-30), 3) := by decide +kernel
theorem dX7_worldsOfAllWishes_43 : decode cX7_worldsOfAllWishes 43 = .ok (.iload_n 1, 1) := by decide +kernel
theorem dX7_worldsOfAllWishes_44 : decode cX7_worldsOfAllWishes 44 = .ok (.ireturn, 1) := by decide +kernel
theorem dX7_mixed_0 : decode cX7_mixed 0 = .ok (.ldc2_w 286, 3) := by decide +kernel
theorem dX7_mixed_3 : decode cX7_mixed 3 = .ok (.lload_n 0, 1) := by decide +kernel
theorem dX7_mixed_4 : decode cX7_mixed 4 = .ok (.lmul, 1) := by decide +kernel
theorem dX7_mixed_5 : decode cX7_mixed 5 = .ok (.lload_n 2, 1) := by decide +kernel
theorem dX7_mixed_6 : decode cX7_mixed 6 = .ok (.ladd, 1) := by decide +kernel
theorem dX7_mixed_7 : decode cX7_mixed 7 = .ok (.lreturn, 1) := by decide +kernel
theorem dX7_mixedSigns_0 : decode cX7_mixedSigns 0 = .ok (.lload_n 1, 1) := by decide +kernel
theorem dX7_mixedSigns_1 : decode cX7_mixedSigns 1 = .ok (.lstore_n 3, 1) := by decide +kernel
theorem dX7_mixedSigns_2 : decode cX7_mixedSigns 2 = .ok (.iconst 0, 1) := by decide +kernel
theorem dX7_mixedSigns_3 : decode cX7_mixedSigns 3 = .ok (.istore 5, 2) := by decide +kernel
theorem dX7_mixedSigns_5 : decode cX7_mixedSigns 5 = .ok (.iload 5, 2) := by decide +kernel
theorem dX7_mixedSigns_7 : decode cX7_mixedSigns 7 = .ok (.iconst 3, 1) := by decide +kernel
theorem dX7_mixedSigns_8 : decode cX7_mixedSigns 8 = .ok (.if_icmp .gt 24, 3) := by decide +kernel
theorem dX7_mixedSigns_11 : decode cX7_mixedSigns 11 = .ok (.lload_n 3, 1) := by decide +kernel
theorem dX7_mixedSigns_12 : decode cX7_mixedSigns 12 = .ok (.aload_n 0, 1) := by decide +kernel
theorem dX7_mixedSigns_13 : decode cX7_mixedSigns 13 = .ok (.getfield 35, 3) := by decide +kernel
theorem dX7_mixedSigns_16 : decode cX7_mixedSigns 16 = .ok (.iload 5, 2) := by decide +kernel
theorem dX7_mixedSigns_18 : decode cX7_mixedSigns 18 = .ok (.invokevirtual 181, 3) := by decide +kernel
theorem dX7_mixedSigns_21 : decode cX7_mixedSigns 21 = .ok (.i2l, 1) := by decide +kernel
theorem dX7_mixedSigns_22 : decode cX7_mixedSigns 22 = .ok (.invokestatic 239, 3) := by decide +kernel
theorem dX7_mixedSigns_25 : decode cX7_mixedSigns 25 = .ok (.lstore_n 3, 1) := by decide +kernel
theorem dX7_mixedSigns_26 : decode cX7_mixedSigns 26 = .ok (.iinc 5 1, 3) := by decide +kernel
theorem dX7_mixedSigns_29 : decode cX7_mixedSigns 29 = .ok (.goto (-24), 3) := by decide +kernel
theorem dX7_mixedSigns_32 : decode cX7_mixedSigns 32 = .ok (.iconst 0, 1) := by decide +kernel
theorem dX7_mixedSigns_33 : decode cX7_mixedSigns 33 = .ok (.istore 5, 2) := by decide +kernel
theorem dX7_mixedSigns_35 : decode cX7_mixedSigns 35 = .ok (.iload 5, 2) := by decide +kernel
theorem dX7_mixedSigns_37 : decode cX7_mixedSigns 37 = .ok (.aload_n 0, 1) := by decide +kernel
theorem dX7_mixedSigns_38 : decode cX7_mixedSigns 38 = .ok (.getfield 35, 3) := by decide +kernel
theorem dX7_mixedSigns_41 : decode cX7_mixedSigns 41 = .ok (.getfield 288, 3) := by decide +kernel
theorem dX7_mixedSigns_44 : decode cX7_mixedSigns 44 = .ok (.if_icmp .ge 41, 3) := by decide +kernel
theorem dX7_mixedSigns_47 : decode cX7_mixedSigns 47 = .ok (.iconst 0, 1) := by decide +kernel
theorem dX7_mixedSigns_48 : decode cX7_mixedSigns 48 = .ok (.istore 6, 2) := by decide +kernel
theorem dX7_mixedSigns_50 : decode cX7_mixedSigns 50 = .ok (.iload 6, 2) := by decide +kernel
theorem dX7_mixedSigns_52 : decode cX7_mixedSigns 52 = .ok (.iconst 3, 1) := by decide +kernel
theorem dX7_mixedSigns_53 : decode cX7_mixedSigns 53 = .ok (.if_icmp .gt 26, 3) := by decide +kernel
theorem dX7_mixedSigns_56 : decode cX7_mixedSigns 56 = .ok (.lload_n 3, 1) := by decide +kernel
theorem dX7_mixedSigns_57 : decode cX7_mixedSigns 57 = .ok (.aload_n 0, 1) := by decide +kernel
theorem dX7_mixedSigns_58 : decode cX7_mixedSigns 58 = .ok (.getfield 35, 3) := by decide +kernel
theorem dX7_mixedSigns_61 : decode cX7_mixedSigns 61 = .ok (.iload 5, 2) := by decide +kernel
theorem dX7_mixedSigns_63 : decode cX7_mixedSigns 63 = .ok (.iload 6, 2) := by decide +kernel
theorem dX7_mixedSigns_65 : decode cX7_mixedSigns 65 = .ok (.invokevirtual 189, 3) := by decide +kernel
theorem dX7_mixedSigns_68 : decode cX7_mixedSigns 68 = .ok (.i2l, 1) := by decide +kernel
theorem dX7_mixedSigns_69 : decode cX7_mixedSigns 69 = .ok (.invokestatic 239, 3) := by decide +kernel
theorem dX7_mixedSigns_72 : decode cX7_mixedSigns 72 = .ok (.lstore_n 3, 1) := by decide +kernel
theorem dX7_mixedSigns_73 : decode cX7_mixedSigns 73 = .ok (.iinc 6 1, 3) := by decide +kernel
theorem dX7_mixedSigns_76 : decode cX7_mixedSigns 76 = .ok (.goto (-26), 3) := by decide +kernel
theorem dX7_mixedSigns_79 : decode cX7_mixedSigns 79 = .ok (.iinc 5 1, 3) := by decide +kernel
theorem dX7_mixedSigns_82 : decode cX7_mixedSigns 82 = .ok (.goto (-47), 3) := by decide +kernel
theorem dX7_mixedSigns_85 : decode cX7_mixedSigns 85 = .ok (.lload_n 3, 1) := by decide +kernel
theorem dX7_mixedSigns_86 : decode cX7_mixedSigns 86 = .ok (.lreturn, 1) := by decide +kernel
theorem dX7_mixedWitness_0 : decode cX7_mixedWitness 0 = .ok (.lload_n 1, 1) := by decide +kernel
theorem dX7_mixedWitness_1 : decode cX7_mixedWitness 1 = .ok (.lstore_n 3, 1) := by decide +kernel
theorem dX7_mixedWitness_2 : decode cX7_mixedWitness 2 = .ok (.iconst 0, 1) := by decide +kernel
theorem dX7_mixedWitness_3 : decode cX7_mixedWitness 3 = .ok (.istore 5, 2) := by decide +kernel
theorem dX7_mixedWitness_5 : decode cX7_mixedWitness 5 = .ok (.iload 5, 2) := by decide +kernel
theorem dX7_mixedWitness_7 : decode cX7_mixedWitness 7 = .ok (.iconst 4, 1) := by decide +kernel
theorem dX7_mixedWitness_8 : decode cX7_mixedWitness 8 = .ok (.if_icmp .ge 24, 3) := by decide +kernel
theorem dX7_mixedWitness_11 : decode cX7_mixedWitness 11 = .ok (.lload_n 3, 1) := by decide +kernel
theorem dX7_mixedWitness_12 : decode cX7_mixedWitness 12 = .ok (.aload_n 0, 1) := by decide +kernel
theorem dX7_mixedWitness_13 : decode cX7_mixedWitness 13 = .ok (.getfield 44, 3) := by decide +kernel
theorem dX7_mixedWitness_16 : decode cX7_mixedWitness 16 = .ok (.iload 5, 2) := by decide +kernel
theorem dX7_mixedWitness_18 : decode cX7_mixedWitness 18 = .ok (.invokevirtual 197, 3) := by decide +kernel
theorem dX7_mixedWitness_21 : decode cX7_mixedWitness 21 = .ok (.i2l, 1) := by decide +kernel
theorem dX7_mixedWitness_22 : decode cX7_mixedWitness 22 = .ok (.invokestatic 239, 3) := by decide +kernel
theorem dX7_mixedWitness_25 : decode cX7_mixedWitness 25 = .ok (.lstore_n 3, 1) := by decide +kernel
theorem dX7_mixedWitness_26 : decode cX7_mixedWitness 26 = .ok (.iinc 5 1, 3) := by decide +kernel
theorem dX7_mixedWitness_29 : decode cX7_mixedWitness 29 = .ok (.goto (-24), 3) := by decide +kernel
theorem dX7_mixedWitness_32 : decode cX7_mixedWitness 32 = .ok (.lload_n 3, 1) := by decide +kernel
theorem dX7_mixedWitness_33 : decode cX7_mixedWitness 33 = .ok (.lreturn, 1) := by decide +kernel
theorem dX7_mixedFixes_0 : decode cX7_mixedFixes 0 = .ok (.aload_n 0, 1) := by decide +kernel
theorem dX7_mixedFixes_1 : decode cX7_mixedFixes 1 = .ok (.getfield 51, 3) := by decide +kernel
theorem dX7_mixedFixes_4 : decode cX7_mixedFixes 4 = .ok (.aload_n 0, 1) := by decide +kernel
theorem dX7_mixedFixes_5 : decode cX7_mixedFixes 5 = .ok (.getfield 10, 3) := by decide +kernel
theorem dX7_mixedFixes_8 : decode cX7_mixedFixes 8 = .ok (.iload_n 3, 1) := by decide +kernel
theorem dX7_mixedFixes_9 : decode cX7_mixedFixes 9 = .ok (.iconst 0, 1) := by decide +kernel
theorem dX7_mixedFixes_10 : decode cX7_mixedFixes 10 = .ok (.invokevirtual 217, 3) := by decide +kernel
theorem dX7_mixedFixes_13 : decode cX7_mixedFixes 13 = .ok (.lload_n 1, 1) := by decide +kernel
theorem dX7_mixedFixes_14 : decode cX7_mixedFixes 14 = .ok (.aload_n 0, 1) := by decide +kernel
theorem dX7_mixedFixes_15 : decode cX7_mixedFixes 15 = .ok (.getfield 51, 3) := by decide +kernel
theorem dX7_mixedFixes_18 : decode cX7_mixedFixes 18 = .ok (.getfield 224, 3) := by decide +kernel
theorem dX7_mixedFixes_21 : decode cX7_mixedFixes 21 = .ok (.i2l, 1) := by decide +kernel
theorem dX7_mixedFixes_22 : decode cX7_mixedFixes 22 = .ok (.invokestatic 239, 3) := by decide +kernel
theorem dX7_mixedFixes_25 : decode cX7_mixedFixes 25 = .ok (.aload_n 0, 1) := by decide +kernel
theorem dX7_mixedFixes_26 : decode cX7_mixedFixes 26 = .ok (.getfield 51, 3) := by decide +kernel
theorem dX7_mixedFixes_29 : decode cX7_mixedFixes 29 = .ok (.getfield 227, 3) := by decide +kernel
theorem dX7_mixedFixes_32 : decode cX7_mixedFixes 32 = .ok (.i2l, 1) := by decide +kernel
theorem dX7_mixedFixes_33 : decode cX7_mixedFixes 33 = .ok (.invokestatic 239, 3) := by decide +kernel
theorem dX7_mixedFixes_36 : decode cX7_mixedFixes 36 = .ok (.lstore 4, 2) := by decide +kernel
theorem dX7_mixedFixes_38 : decode cX7_mixedFixes 38 = .ok (.aload_n 0, 1) := by decide +kernel
theorem dX7_mixedFixes_39 : decode cX7_mixedFixes 39 = .ok (.getfield 51, 3) := by decide +kernel
theorem dX7_mixedFixes_42 : decode cX7_mixedFixes 42 = .ok (.aload_n 0, 1) := by decide +kernel
theorem dX7_mixedFixes_43 : decode cX7_mixedFixes 43 = .ok (.getfield 10, 3) := by decide +kernel
theorem dX7_mixedFixes_46 : decode cX7_mixedFixes 46 = .ok (.iload_n 3, 1) := by decide +kernel
theorem dX7_mixedFixes_47 : decode cX7_mixedFixes 47 = .ok (.iconst 0, 1) := by decide +kernel
theorem dX7_mixedFixes_48 : decode cX7_mixedFixes 48 = .ok (.invokevirtual 221, 3) := by decide +kernel
theorem dX7_mixedFixes_51 : decode cX7_mixedFixes 51 = .ok (.lload 4, 2) := by decide +kernel
theorem dX7_mixedFixes_53 : decode cX7_mixedFixes 53 = .ok (.aload_n 0, 1) := by decide +kernel
theorem dX7_mixedFixes_54 : decode cX7_mixedFixes 54 = .ok (.getfield 51, 3) := by decide +kernel
theorem dX7_mixedFixes_57 : decode cX7_mixedFixes 57 = .ok (.getfield 224, 3) := by decide +kernel
theorem dX7_mixedFixes_60 : decode cX7_mixedFixes 60 = .ok (.i2l, 1) := by decide +kernel
theorem dX7_mixedFixes_61 : decode cX7_mixedFixes 61 = .ok (.invokestatic 239, 3) := by decide +kernel
theorem dX7_mixedFixes_64 : decode cX7_mixedFixes 64 = .ok (.aload_n 0, 1) := by decide +kernel
theorem dX7_mixedFixes_65 : decode cX7_mixedFixes 65 = .ok (.getfield 51, 3) := by decide +kernel
theorem dX7_mixedFixes_68 : decode cX7_mixedFixes 68 = .ok (.getfield 227, 3) := by decide +kernel
theorem dX7_mixedFixes_71 : decode cX7_mixedFixes 71 = .ok (.i2l, 1) := by decide +kernel
theorem dX7_mixedFixes_72 : decode cX7_mixedFixes 72 = .ok (.invokestatic 239, 3) := by decide +kernel
theorem dX7_mixedFixes_75 : decode cX7_mixedFixes 75 = .ok (.lreturn, 1) := by decide +kernel
theorem dX7_bitsOfShare_0 : decode cX7_bitsOfShare 0 = .ok (.dload_n 0, 1) := by decide +kernel
theorem dX7_bitsOfShare_1 : decode cX7_bitsOfShare 1 = .ok (.dconst 0, 1) := by decide +kernel
theorem dX7_bitsOfShare_2 : decode cX7_bitsOfShare 2 = .ok (.dcmp .g, 1) := by decide +kernel
theorem dX7_bitsOfShare_3 : decode cX7_bitsOfShare 3 = .ok (.ifCond .gt 5, 3) := by decide +kernel
theorem dX7_bitsOfShare_6 : decode cX7_bitsOfShare 6 = .ok (.lconst 0, 1) := by decide +kernel
theorem dX7_bitsOfShare_7 : decode cX7_bitsOfShare 7 = .ok (.lreturn, 1) := by decide +kernel
theorem dX7_bitsOfShare_8 : decode cX7_bitsOfShare 8 = .ok (.dload_n 0, 1) := by decide +kernel
theorem dX7_bitsOfShare_9 : decode cX7_bitsOfShare 9 = .ok (.dstore_n 2, 1) := by decide +kernel
theorem dX7_bitsOfShare_10 : decode cX7_bitsOfShare 10 = .ok (.ldc2_w 289, 3) := by decide +kernel
theorem dX7_bitsOfShare_13 : decode cX7_bitsOfShare 13 = .ok (.lstore 4, 2) := by decide +kernel
theorem dX7_bitsOfShare_15 : decode cX7_bitsOfShare 15 = .ok (.iconst 0, 1) := by decide +kernel
theorem dX7_bitsOfShare_16 : decode cX7_bitsOfShare 16 = .ok (.istore 6, 2) := by decide +kernel
theorem dX7_bitsOfShare_18 : decode cX7_bitsOfShare 18 = .ok (.iload 6, 2) := by decide +kernel
theorem dX7_bitsOfShare_20 : decode cX7_bitsOfShare 20 = .ok (.sipush 1023, 3) := by decide +kernel
theorem dX7_bitsOfShare_23 : decode cX7_bitsOfShare 23 = .ok (.if_icmp .ge 27, 3) := by decide +kernel
theorem dX7_bitsOfShare_26 : decode cX7_bitsOfShare 26 = .ok (.dload_n 2, 1) := by decide +kernel
theorem dX7_bitsOfShare_27 : decode cX7_bitsOfShare 27 = .ok (.dconst 1, 1) := by decide +kernel
theorem dX7_bitsOfShare_28 : decode cX7_bitsOfShare 28 = .ok (.dcmp .g, 1) := by decide +kernel
theorem dX7_bitsOfShare_29 : decode cX7_bitsOfShare 29 = .ok (.ifCond .ge 21, 3) := by decide +kernel
theorem dX7_bitsOfShare_32 : decode cX7_bitsOfShare 32 = .ok (.dload_n 2, 1) := by decide +kernel
theorem dX7_bitsOfShare_33 : decode cX7_bitsOfShare 33 = .ok (.ldc2_w 291, 3) := by decide +kernel
theorem dX7_bitsOfShare_36 : decode cX7_bitsOfShare 36 = .ok (.dmul, 1) := by decide +kernel
theorem dX7_bitsOfShare_37 : decode cX7_bitsOfShare 37 = .ok (.dstore_n 2, 1) := by decide +kernel
theorem dX7_bitsOfShare_38 : decode cX7_bitsOfShare 38 = .ok (.lload 4, 2) := by decide +kernel
theorem dX7_bitsOfShare_40 : decode cX7_bitsOfShare 40 = .ok (.lconst 1, 1) := by decide +kernel
theorem dX7_bitsOfShare_41 : decode cX7_bitsOfShare 41 = .ok (.lsub, 1) := by decide +kernel
theorem dX7_bitsOfShare_42 : decode cX7_bitsOfShare 42 = .ok (.lstore 4, 2) := by decide +kernel
theorem dX7_bitsOfShare_44 : decode cX7_bitsOfShare 44 = .ok (.iinc 6 1, 3) := by decide +kernel
theorem dX7_bitsOfShare_47 : decode cX7_bitsOfShare 47 = .ok (.goto (-29), 3) := by decide +kernel
theorem dX7_bitsOfShare_50 : decode cX7_bitsOfShare 50 = .ok (.dload_n 2, 1) := by decide +kernel
theorem dX7_bitsOfShare_51 : decode cX7_bitsOfShare 51 = .ok (.dconst 1, 1) := by decide +kernel
theorem dX7_bitsOfShare_52 : decode cX7_bitsOfShare 52 = .ok (.dsub, 1) := by decide +kernel
theorem dX7_bitsOfShare_53 : decode cX7_bitsOfShare 53 = .ok (.ldc2_w 293, 3) := by decide +kernel
theorem dX7_bitsOfShare_56 : decode cX7_bitsOfShare 56 = .ok (.dmul, 1) := by decide +kernel
theorem dX7_bitsOfShare_57 : decode cX7_bitsOfShare 57 = .ok (.d2l, 1) := by decide +kernel
theorem dX7_bitsOfShare_58 : decode cX7_bitsOfShare 58 = .ok (.lstore 6, 2) := by decide +kernel
theorem dX7_bitsOfShare_60 : decode cX7_bitsOfShare 60 = .ok (.lload 4, 2) := by decide +kernel
theorem dX7_bitsOfShare_62 : decode cX7_bitsOfShare 62 = .ok (.bipush 52, 2) := by decide +kernel
theorem dX7_bitsOfShare_64 : decode cX7_bitsOfShare 64 = .ok (.lshl, 1) := by decide +kernel
theorem dX7_bitsOfShare_65 : decode cX7_bitsOfShare 65 = .ok (.lload 6, 2) := by decide +kernel
theorem dX7_bitsOfShare_67 : decode cX7_bitsOfShare 67 = .ok (.ladd, 1) := by decide +kernel
theorem dX7_bitsOfShare_68 : decode cX7_bitsOfShare 68 = .ok (.lreturn, 1) := by decide +kernel
theorem dX8_init_0 : decode cX8_init 0 = .ok (.aload_n 0, 1) := by decide +kernel
theorem dX8_init_1 : decode cX8_init 1 = .ok (.invokespecial 1, 3) := by decide +kernel
theorem dX8_init_4 : decode cX8_init 4 = .ok (.aload_n 0, 1) := by decide +kernel
theorem dX8_init_5 : decode cX8_init 5 = .ok (.sipush 186, 3) := by decide +kernel
theorem dX8_init_8 : decode cX8_init 8 = .ok (.newarray .int, 2) := by decide +kernel
theorem dX8_init_10 : decode cX8_init 10 = .ok (.putfield 7, 3) := by decide +kernel
theorem dX8_init_13 : decode cX8_init 13 = .ok (.aload_n 0, 1) := by decide +kernel
theorem dX8_init_14 : decode cX8_init 14 = .ok (.sipush 1116, 3) := by decide +kernel
theorem dX8_init_17 : decode cX8_init 17 = .ok (.newarray .int, 2) := by decide +kernel
theorem dX8_init_19 : decode cX8_init 19 = .ok (.putfield 13, 3) := by decide +kernel
theorem dX8_init_22 : decode cX8_init 22 = .ok (.aload_n 0, 1) := by decide +kernel
theorem dX8_init_23 : decode cX8_init 23 = .ok (.bipush 60, 2) := by decide +kernel
theorem dX8_init_25 : decode cX8_init 25 = .ok (.newarray .int, 2) := by decide +kernel
theorem dX8_init_27 : decode cX8_init 27 = .ok (.putfield 16, 3) := by decide +kernel
theorem dX8_init_30 : decode cX8_init 30 = .ok (.aload_n 0, 1) := by decide +kernel
theorem dX8_init_31 : decode cX8_init 31 = .ok (.bipush 40, 2) := by decide +kernel
theorem dX8_init_33 : decode cX8_init 33 = .ok (.newarray .int, 2) := by decide +kernel
theorem dX8_init_35 : decode cX8_init 35 = .ok (.putfield 19, 3) := by decide +kernel
theorem dX8_init_38 : decode cX8_init 38 = .ok (.aload_n 0, 1) := by decide +kernel
theorem dX8_init_39 : decode cX8_init 39 = .ok (.bipush 40, 2) := by decide +kernel
theorem dX8_init_41 : decode cX8_init 41 = .ok (.newarray .int, 2) := by decide +kernel
theorem dX8_init_43 : decode cX8_init 43 = .ok (.putfield 22, 3) := by decide +kernel
theorem dX8_init_46 : decode cX8_init 46 = .ok (.aload_n 0, 1) := by decide +kernel
theorem dX8_init_47 : decode cX8_init 47 = .ok (.bipush 40, 2) := by decide +kernel
theorem dX8_init_49 : decode cX8_init 49 = .ok (.newarray .int, 2) := by decide +kernel
theorem dX8_init_51 : decode cX8_init 51 = .ok (.putfield 25, 3) := by decide +kernel
theorem dX8_init_54 : decode cX8_init 54 = .ok (.aload_n 0, 1) := by decide +kernel
theorem dX8_init_55 : decode cX8_init 55 = .ok (.bipush 40, 2) := by decide +kernel
theorem dX8_init_57 : decode cX8_init 57 = .ok (.newarray .int, 2) := by decide +kernel
theorem dX8_init_59 : decode cX8_init 59 = .ok (.putfield 28, 3) := by decide +kernel
theorem dX8_init_62 : decode cX8_init 62 = .ok (.aload_n 0, 1) := by decide +kernel
theorem dX8_init_63 : decode cX8_init 63 = .ok (.sipush 200, 3) := by decide +kernel
theorem dX8_init_66 : decode cX8_init 66 = .ok (.newarray .int, 2) := by decide +kernel
theorem dX8_init_68 : decode cX8_init 68 = .ok (.putfield 31, 3) := by decide +kernel
theorem dX8_init_71 : decode cX8_init 71 = .ok (.aload_n 0, 1) := by decide +kernel
theorem dX8_init_72 : decode cX8_init 72 = .ok (.bipush 10, 2) := by decide +kernel
theorem dX8_init_74 : decode cX8_init 74 = .ok (.newarray .int, 2) := by decide +kernel
theorem dX8_init_76 : decode cX8_init 76 = .ok (.putfield 34, 3) := by decide +kernel
theorem dX8_init_79 : decode cX8_init 79 = .ok (.aload_n 0, 1) := by decide +kernel
theorem dX8_init_80 : decode cX8_init 80 = .ok (.getfield 7, 3) := by decide +kernel
theorem dX8_init_83 : decode cX8_init 83 = .ok (.iconst 1, 1) := by decide +kernel
theorem dX8_init_84 : decode cX8_init 84 = .ok (.iconst (-1), 1) := by decide +kernel
theorem dX8_init_85 : decode cX8_init 85 = .ok (.iastore, 1) := by decide +kernel
theorem dX8_init_86 : decode cX8_init 86 = .ok (.return_, 1) := by decide +kernel
theorem dX8_thrown_0 : decode cX8_thrown 0 = .ok (.aload_n 0, 1) := by decide +kernel
theorem dX8_thrown_1 : decode cX8_thrown 1 = .ok (.getfield 37, 3) := by decide +kernel
theorem dX8_thrown_4 : decode cX8_thrown 4 = .ok (.ireturn, 1) := by decide +kernel
theorem dX8_in_0 : decode cX8_in 0 = .ok (.iload_n 0, 1) := by decide +kernel
theorem dX8_in_1 : decode cX8_in 1 = .ok (.iload_n 1, 1) := by decide +kernel
theorem dX8_in_2 : decode cX8_in 2 = .ok (.if_icmp .lt 12, 3) := by decide +kernel
theorem dX8_in_5 : decode cX8_in 5 = .ok (.iload_n 0, 1) := by decide +kernel
theorem dX8_in_6 : decode cX8_in 6 = .ok (.iload_n 2, 1) := by decide +kernel
theorem dX8_in_7 : decode cX8_in 7 = .ok (.if_icmp .gt 7, 3) := by decide +kernel
theorem dX8_in_10 : decode cX8_in 10 = .ok (.iconst 1, 1) := by decide +kernel
theorem dX8_in_11 : decode cX8_in 11 = .ok (.goto 4, 3) := by decide +kernel
theorem dX8_in_14 : decode cX8_in 14 = .ok (.iconst 0, 1) := by decide +kernel
theorem dX8_in_15 : decode cX8_in 15 = .ok (.ireturn, 1) := by decide +kernel
theorem dX8_isWorld_0 : decode cX8_isWorld 0 = .ok (.iload_n 1, 1) := by decide +kernel
theorem dX8_isWorld_1 : decode cX8_isWorld 1 = .ok (.ifCond .lt 17, 3) := by decide +kernel
theorem dX8_isWorld_4 : decode cX8_isWorld 4 = .ok (.iload_n 1, 1) := by decide +kernel
theorem dX8_isWorld_5 : decode cX8_isWorld 5 = .ok (.aload_n 0, 1) := by decide +kernel
theorem dX8_isWorld_6 : decode cX8_isWorld 6 = .ok (.getfield 7, 3) := by decide +kernel
theorem dX8_isWorld_9 : decode cX8_isWorld 9 = .ok (.iconst 0, 1) := by decide +kernel
theorem dX8_isWorld_10 : decode cX8_isWorld 10 = .ok (.iaload, 1) := by decide +kernel
theorem dX8_isWorld_11 : decode cX8_isWorld 11 = .ok (.if_icmp .ge 7, 3) := by decide +kernel
theorem dX8_isWorld_14 : decode cX8_isWorld 14 = .ok (.iconst 1, 1) := by decide +kernel
theorem dX8_isWorld_15 : decode cX8_isWorld 15 = .ok (.goto 4, 3) := by decide +kernel
theorem dX8_isWorld_18 : decode cX8_isWorld 18 = .ok (.iconst 0, 1) := by decide +kernel
theorem dX8_isWorld_19 : decode cX8_isWorld 19 = .ok (.ireturn, 1) := by decide +kernel
theorem dX8_isWish_0 : decode cX8_isWish 0 = .ok (.iload_n 0, 1) := by decide +kernel
theorem dX8_isWish_1 : decode cX8_isWish 1 = .ok (.iconst 0, 1) := by decide +kernel
theorem dX8_isWish_2 : decode cX8_isWish 2 = .ok (.iconst 3, 1) := by decide +kernel
theorem dX8_isWish_3 : decode cX8_isWish 3 = .ok (.invokestatic 41, 3) := by decide +kernel
theorem dX8_isWish_6 : decode cX8_isWish 6 = .ok (.ireturn, 1) := by decide +kernel
theorem dX8_all_0 : decode cX8_all 0 = .ok (.iconst 1, 1) := by decide +kernel
theorem dX8_all_1 : decode cX8_all 1 = .ok (.aload_n 0, 1) := by decide +kernel
theorem dX8_all_2 : decode cX8_all 2 = .ok (.getfield 7, 3) := by decide +kernel
theorem dX8_all_5 : decode cX8_all 5 = .ok (.iconst 0, 1) := by decide +kernel
theorem dX8_all_6 : decode cX8_all 6 = .ok (.iaload, 1) := by decide +kernel
theorem dX8_all_7 : decode cX8_all 7 = .ok (.ishl, 1) := by decide +kernel
theorem dX8_all_8 : decode cX8_all 8 = .ok (.iconst 1, 1) := by decide +kernel
theorem dX8_all_9 : decode cX8_all 9 = .ok (.isub, 1) := by decide +kernel
theorem dX8_all_10 : decode cX8_all 10 = .ok (.ireturn, 1) := by decide +kernel
theorem dX8_bits_0 : decode cX8_bits 0 = .ok (.iconst 0, 1) := by decide +kernel
theorem dX8_bits_1 : decode cX8_bits 1 = .ok (.istore_n 1, 1) := by decide +kernel
theorem dX8_bits_2 : decode cX8_bits 2 = .ok (.iload_n 0, 1) := by decide +kernel
theorem dX8_bits_3 : decode cX8_bits 3 = .ok (.istore_n 2, 1) := by decide +kernel
theorem dX8_bits_4 : decode cX8_bits 4 = .ok (.iload_n 2, 1) := by decide +kernel
theorem dX8_bits_5 : decode cX8_bits 5 = .ok (.ifCond .eq 15, 3) := by decide +kernel
theorem dX8_bits_8 : decode cX8_bits 8 = .ok (.iinc 1 1, 3) := by decide +kernel
theorem dX8_bits_11 : decode cX8_bits 11 = .ok (.iload_n 2, 1) := by decide +kernel
theorem dX8_bits_12 : decode cX8_bits 12 = .ok (.iload_n 2, 1) := by decide +kernel
theorem dX8_bits_13 : decode cX8_bits 13 = .ok (.iconst 1, 1) := by decide +kernel
theorem dX8_bits_14 : decode cX8_bits 14 = .ok (.isub, 1) := by decide +kernel
theorem dX8_bits_15 : decode cX8_bits 15 = .ok (.iand, 1) := by decide +kernel
theorem dX8_bits_16 : decode cX8_bits 16 = .ok (.istore_n 2, 1) := by decide +kernel
theorem dX8_bits_17 : decode cX8_bits 17 = .ok (.goto (-13), 3) := by decide +kernel
theorem dX8_bits_20 : decode cX8_bits 20 = .ok (.iload_n 1, 1) := by decide +kernel
theorem dX8_bits_21 : decode cX8_bits 21 = .ok (.ireturn, 1) := by decide +kernel
theorem dX8_save_0 : decode cX8_save 0 = .ok (.aload_n 0, 1) := by decide +kernel
theorem dX8_save_1 : decode cX8_save 1 = .ok (.getfield 45, 3) := by decide +kernel
theorem dX8_save_4 : decode cX8_save 4 = .ok (.bipush 6, 2) := by decide +kernel
theorem dX8_save_6 : decode cX8_save 6 = .ok (.if_icmp .ne 44, 3) := by decide +kernel
theorem dX8_save_9 : decode cX8_save 9 = .ok (.iconst 0, 1) := by decide +kernel
theorem dX8_save_10 : decode cX8_save 10 = .ok (.istore_n 1, 1) := by decide +kernel
theorem dX8_save_11 : decode cX8_save 11 = .ok (.iload_n 1, 1) := by decide +kernel
theorem dX8_save_12 : decode cX8_save 12 = .ok (.sipush 930, 3) := by decide +kernel
theorem dX8_save_15 : decode cX8_save 15 = .ok (.if_icmp .ge 25, 3) := by decide +kernel
theorem dX8_save_18 : decode cX8_save 18 = .ok (.aload_n 0, 1) := by decide +kernel
theorem dX8_save_19 : decode cX8_save 19 = .ok (.getfield 13, 3) := by decide +kernel
theorem dX8_save_22 : decode cX8_save 22 = .ok (.iload_n 1, 1) := by decide +kernel
theorem dX8_save_23 : decode cX8_save 23 = .ok (.aload_n 0, 1) := by decide +kernel
theorem dX8_save_24 : decode cX8_save 24 = .ok (.getfield 13, 3) := by decide +kernel
theorem dX8_save_27 : decode cX8_save 27 = .ok (.iload_n 1, 1) := by decide +kernel
theorem dX8_save_28 : decode cX8_save 28 = .ok (.sipush 186, 3) := by decide +kernel
theorem dX8_save_31 : decode cX8_save 31 = .ok (.iadd, 1) := by decide +kernel
theorem dX8_save_32 : decode cX8_save 32 = .ok (.iaload, 1) := by decide +kernel
theorem dX8_save_33 : decode cX8_save 33 = .ok (.iastore, 1) := by decide +kernel
theorem dX8_save_34 : decode cX8_save 34 = .ok (.iinc 1 1, 3) := by decide +kernel
theorem dX8_save_37 : decode cX8_save 37 = .ok (.goto (-26), 3) := by decide +kernel
theorem dX8_save_40 : decode cX8_save 40 = .ok (.aload_n 0, 1) := by decide +kernel
theorem dX8_save_41 : decode cX8_save 41 = .ok (.dup, 1) := by decide +kernel
theorem dX8_save_42 : decode cX8_save 42 = .ok (.getfield 45, 3) := by decide +kernel
theorem dX8_save_45 : decode cX8_save 45 = .ok (.iconst 1, 1) := by decide +kernel
theorem dX8_save_46 : decode cX8_save 46 = .ok (.isub, 1) := by decide +kernel
theorem dX8_save_47 : decode cX8_save 47 = .ok (.putfield 45, 3) := by decide +kernel
theorem dX8_save_50 : decode cX8_save 50 = .ok (.iconst 0, 1) := by decide +kernel
theorem dX8_save_51 : decode cX8_save 51 = .ok (.istore_n 1, 1) := by decide +kernel
theorem dX8_save_52 : decode cX8_save 52 = .ok (.iload_n 1, 1) := by decide +kernel
theorem dX8_save_53 : decode cX8_save 53 = .ok (.sipush 186, 3) := by decide +kernel
theorem dX8_save_56 : decode cX8_save 56 = .ok (.if_icmp .ge 30, 3) := by decide +kernel
theorem dX8_save_59 : decode cX8_save 59 = .ok (.aload_n 0, 1) := by decide +kernel
theorem dX8_save_60 : decode cX8_save 60 = .ok (.getfield 13, 3) := by decide +kernel
theorem dX8_save_63 : decode cX8_save 63 = .ok (.aload_n 0, 1) := by decide +kernel
theorem dX8_save_64 : decode cX8_save 64 = .ok (.getfield 45, 3) := by decide +kernel
theorem dX8_save_67 : decode cX8_save 67 = .ok (.sipush 186, 3) := by decide +kernel
theorem dX8_save_70 : decode cX8_save 70 = .ok (.imul, 1) := by decide +kernel
theorem dX8_save_71 : decode cX8_save 71 = .ok (.iload_n 1, 1) := by decide +kernel
theorem dX8_save_72 : decode cX8_save 72 = .ok (.iadd, 1) := by decide +kernel
theorem dX8_save_73 : decode cX8_save 73 = .ok (.aload_n 0, 1) := by decide +kernel
theorem dX8_save_74 : decode cX8_save 74 = .ok (.getfield 7, 3) := by decide +kernel
theorem dX8_save_77 : decode cX8_save 77 = .ok (.iload_n 1, 1) := by decide +kernel
theorem dX8_save_78 : decode cX8_save 78 = .ok (.iaload, 1) := by decide +kernel
theorem dX8_save_79 : decode cX8_save 79 = .ok (.iastore, 1) := by decide +kernel
theorem dX8_save_80 : decode cX8_save 80 = .ok (.iinc 1 1, 3) := by decide +kernel
theorem dX8_save_83 : decode cX8_save 83 = .ok (.goto (-31), 3) := by decide +kernel
theorem dX8_save_86 : decode cX8_save 86 = .ok (.aload_n 0, 1) := by decide +kernel
theorem dX8_save_87 : decode cX8_save 87 = .ok (.dup, 1) := by decide +kernel
theorem dX8_save_88 : decode cX8_save 88 = .ok (.getfield 45, 3) := by decide +kernel
theorem dX8_save_91 : decode cX8_save 91 = .ok (.iconst 1, 1) := by decide +kernel
theorem dX8_save_92 : decode cX8_save 92 = .ok (.iadd, 1) := by decide +kernel
theorem dX8_save_93 : decode cX8_save 93 = .ok (.putfield 45, 3) := by decide +kernel
theorem dX8_save_96 : decode cX8_save 96 = .ok (.return_, 1) := by decide +kernel
theorem dX8_undo_0 : decode cX8_undo 0 = .ok (.aload_n 0, 1) := by decide +kernel
theorem dX8_undo_1 : decode cX8_undo 1 = .ok (.aload_n 0, 1) := by decide +kernel
theorem dX8_undo_2 : decode cX8_undo 2 = .ok (.getfield 45, 3) := by decide +kernel
theorem dX8_undo_5 : decode cX8_undo 5 = .ok (.ifCond .ne 7, 3) := by decide +kernel
theorem dX8_undo_8 : decode cX8_undo 8 = .ok (.iconst 1, 1) := by decide +kernel
theorem dX8_undo_9 : decode cX8_undo 9 = .ok (.goto 4, 3) := by decide +kernel
theorem dX8_undo_12 : decode cX8_undo 12 = .ok (.iconst 0, 1) := by decide +kernel
theorem dX8_undo_13 : decode cX8_undo 13 = .ok (.putfield 37, 3) := by decide +kernel
theorem dX8_undo_16 : decode cX8_undo 16 = .ok (.aload_n 0, 1) := by decide +kernel
theorem dX8_undo_17 : decode cX8_undo 17 = .ok (.getfield 37, 3) := by decide +kernel
theorem dX8_undo_20 : decode cX8_undo 20 = .ok (.ifCond .le 5, 3) := by decide +kernel
theorem dX8_undo_23 : decode cX8_undo 23 = .ok (.iconst 0, 1) := by decide +kernel
theorem dX8_undo_24 : decode cX8_undo 24 = .ok (.ireturn, 1) := by decide +kernel
theorem dX8_undo_25 : decode cX8_undo 25 = .ok (.aload_n 0, 1) := by decide +kernel
theorem dX8_undo_26 : decode cX8_undo 26 = .ok (.dup, 1) := by decide +kernel
theorem dX8_undo_27 : decode cX8_undo 27 = .ok (.getfield 45, 3) := by decide +kernel
theorem dX8_undo_30 : decode cX8_undo 30 = .ok (.iconst 1, 1) := by decide +kernel
theorem dX8_undo_31 : decode cX8_undo 31 = .ok (.isub, 1) := by decide +kernel
theorem dX8_undo_32 : decode cX8_undo 32 = .ok (.putfield 45, 3) := by decide +kernel
theorem dX8_undo_35 : decode cX8_undo 35 = .ok (.iconst 0, 1) := by decide +kernel
theorem dX8_undo_36 : decode cX8_undo 36 = .ok (.istore_n 1, 1) := by decide +kernel
theorem dX8_undo_37 : decode cX8_undo 37 = .ok (.iload_n 1, 1) := by decide +kernel
theorem dX8_undo_38 : decode cX8_undo 38 = .ok (.sipush 186, 3) := by decide +kernel
theorem dX8_undo_41 : decode cX8_undo 41 = .ok (.if_icmp .ge 30, 3) := by decide +kernel
theorem dX8_undo_44 : decode cX8_undo 44 = .ok (.aload_n 0, 1) := by decide +kernel
theorem dX8_undo_45 : decode cX8_undo 45 = .ok (.getfield 7, 3) := by decide +kernel
theorem dX8_undo_48 : decode cX8_undo 48 = .ok (.iload_n 1, 1) := by decide +kernel
theorem dX8_undo_49 : decode cX8_undo 49 = .ok (.aload_n 0, 1) := by decide +kernel
theorem dX8_undo_50 : decode cX8_undo 50 = .ok (.getfield 13, 3) := by decide +kernel
theorem dX8_undo_53 : decode cX8_undo 53 = .ok (.aload_n 0, 1) := by decide +kernel
theorem dX8_undo_54 : decode cX8_undo 54 = .ok (.getfield 45, 3) := by decide +kernel
theorem dX8_undo_57 : decode cX8_undo 57 = .ok (.sipush 186, 3) := by decide +kernel
theorem dX8_undo_60 : decode cX8_undo 60 = .ok (.imul, 1) := by decide +kernel
theorem dX8_undo_61 : decode cX8_undo 61 = .ok (.iload_n 1, 1) := by decide +kernel
theorem dX8_undo_62 : decode cX8_undo 62 = .ok (.iadd, 1) := by decide +kernel
theorem dX8_undo_63 : decode cX8_undo 63 = .ok (.iaload, 1) := by decide +kernel
theorem dX8_undo_64 : decode cX8_undo 64 = .ok (.iastore, 1) := by decide +kernel
theorem dX8_undo_65 : decode cX8_undo 65 = .ok (.iinc 1 1, 3) := by decide +kernel
theorem dX8_undo_68 : decode cX8_undo 68 = .ok (.goto (-31), 3) := by decide +kernel
theorem dX8_undo_71 : decode cX8_undo 71 = .ok (.aload_n 0, 1) := by decide +kernel
theorem dX8_undo_72 : decode cX8_undo 72 = .ok (.getfield 45, 3) := by decide +kernel
theorem dX8_undo_75 : decode cX8_undo 75 = .ok (.ireturn, 1) := by decide +kernel
theorem dX8_addWorld_0 : decode cX8_addWorld 0 = .ok (.aload_n 0, 1) := by decide +kernel
theorem dX8_addWorld_1 : decode cX8_addWorld 1 = .ok (.iload_n 1, 1) := by decide +kernel
theorem dX8_addWorld_2 : decode cX8_addWorld 2 = .ok (.iconst 0, 1) := by decide +kernel
theorem dX8_addWorld_3 : decode cX8_addWorld 3 = .ok (.bipush 15, 2) := by decide +kernel
theorem dX8_addWorld_5 : decode cX8_addWorld 5 = .ok (.invokestatic 41, 3) := by decide +kernel
theorem dX8_addWorld_8 : decode cX8_addWorld 8 = .ok (.ifCond .ne 7, 3) := by decide +kernel
theorem dX8_addWorld_11 : decode cX8_addWorld 11 = .ok (.iconst 1, 1) := by decide +kernel
theorem dX8_addWorld_12 : decode cX8_addWorld 12 = .ok (.goto 19, 3) := by decide +kernel
theorem dX8_addWorld_15 : decode cX8_addWorld 15 = .ok (.aload_n 0, 1) := by decide +kernel
theorem dX8_addWorld_16 : decode cX8_addWorld 16 = .ok (.getfield 7, 3) := by decide +kernel
theorem dX8_addWorld_19 : decode cX8_addWorld 19 = .ok (.iconst 0, 1) := by decide +kernel
theorem dX8_addWorld_20 : decode cX8_addWorld 20 = .ok (.iaload, 1) := by decide +kernel
theorem dX8_addWorld_21 : decode cX8_addWorld 21 = .ok (.bipush 10, 2) := by decide +kernel
theorem dX8_addWorld_23 : decode cX8_addWorld 23 = .ok (.if_icmp .ne 7, 3) := by decide +kernel
theorem dX8_addWorld_26 : decode cX8_addWorld 26 = .ok (.iconst 2, 1) := by decide +kernel
theorem dX8_addWorld_27 : decode cX8_addWorld 27 = .ok (.goto 4, 3) := by decide +kernel
theorem dX8_addWorld_30 : decode cX8_addWorld 30 = .ok (.iconst 0, 1) := by decide +kernel
theorem dX8_addWorld_31 : decode cX8_addWorld 31 = .ok (.putfield 37, 3) := by decide +kernel
theorem dX8_addWorld_34 : decode cX8_addWorld 34 = .ok (.aload_n 0, 1) := by decide +kernel
theorem dX8_addWorld_35 : decode cX8_addWorld 35 = .ok (.getfield 37, 3) := by decide +kernel
theorem dX8_addWorld_38 : decode cX8_addWorld 38 = .ok (.ifCond .le 5, 3) := by decide +kernel
theorem dX8_addWorld_41 : decode cX8_addWorld 41 = .ok (.iconst 0, 1) := by decide +kernel
theorem dX8_addWorld_42 : decode cX8_addWorld 42 = .ok (.ireturn, 1) := by decide +kernel
theorem dX8_addWorld_43 : decode cX8_addWorld 43 = .ok (.aload_n 0, 1) := by decide +kernel
theorem dX8_addWorld_44 : decode cX8_addWorld 44 = .ok (.invokevirtual 48, 3) := by decide +kernel
theorem dX8_addWorld_47 : decode cX8_addWorld 47 = .ok (.aload_n 0, 1) := by decide +kernel
theorem dX8_addWorld_48 : decode cX8_addWorld 48 = .ok (.getfield 7, 3) := by decide +kernel
theorem dX8_addWorld_51 : decode cX8_addWorld 51 = .ok (.iconst 2, 1) := by decide +kernel
theorem dX8_addWorld_52 : decode cX8_addWorld 52 = .ok (.aload_n 0, 1) := by decide +kernel
theorem dX8_addWorld_53 : decode cX8_addWorld 53 = .ok (.getfield 7, 3) := by decide +kernel
theorem dX8_addWorld_56 : decode cX8_addWorld 56 = .ok (.iconst 0, 1) := by decide +kernel
theorem dX8_addWorld_57 : decode cX8_addWorld 57 = .ok (.iaload, 1) := by decide +kernel
theorem dX8_addWorld_58 : decode cX8_addWorld 58 = .ok (.iadd, 1) := by decide +kernel
theorem dX8_addWorld_59 : decode cX8_addWorld 59 = .ok (.iload_n 1, 1) := by decide +kernel
theorem dX8_addWorld_60 : decode cX8_addWorld 60 = .ok (.iastore, 1) := by decide +kernel
theorem dX8_addWorld_61 : decode cX8_addWorld 61 = .ok (.aload_n 0, 1) := by decide +kernel
theorem dX8_addWorld_62 : decode cX8_addWorld 62 = .ok (.getfield 7, 3) := by decide +kernel
theorem dX8_addWorld_65 : decode cX8_addWorld 65 = .ok (.bipush 12, 2) := by decide +kernel
theorem dX8_addWorld_67 : decode cX8_addWorld 67 = .ok (.aload_n 0, 1) := by decide +kernel
theorem dX8_addWorld_68 : decode cX8_addWorld 68 = .ok (.getfield 7, 3) := by decide +kernel
theorem dX8_addWorld_71 : decode cX8_addWorld 71 = .ok (.iconst 0, 1) := by decide +kernel
theorem dX8_addWorld_72 : decode cX8_addWorld 72 = .ok (.iaload, 1) := by decide +kernel
theorem dX8_addWorld_73 : decode cX8_addWorld 73 = .ok (.iadd, 1) := by decide +kernel
theorem dX8_addWorld_74 : decode cX8_addWorld 74 = .ok (.iconst 0, 1) := by decide +kernel
theorem dX8_addWorld_75 : decode cX8_addWorld 75 = .ok (.iastore, 1) := by decide +kernel
theorem dX8_addWorld_76 : decode cX8_addWorld 76 = .ok (.aload_n 0, 1) := by decide +kernel
theorem dX8_addWorld_77 : decode cX8_addWorld 77 = .ok (.getfield 7, 3) := by decide +kernel
theorem dX8_addWorld_80 : decode cX8_addWorld 80 = .ok (.iconst 0, 1) := by decide +kernel
theorem dX8_addWorld_81 : decode cX8_addWorld 81 = .ok (.dup2, 1) := by decide +kernel
theorem dX8_addWorld_82 : decode cX8_addWorld 82 = .ok (.iaload, 1) := by decide +kernel
theorem dX8_addWorld_83 : decode cX8_addWorld 83 = .ok (.iconst 1, 1) := by decide +kernel
theorem dX8_addWorld_84 : decode cX8_addWorld 84 = .ok (.iadd, 1) := by decide +kernel
theorem dX8_addWorld_85 : decode cX8_addWorld 85 = .ok (.iastore, 1) := by decide +kernel
theorem dX8_addWorld_86 : decode cX8_addWorld 86 = .ok (.aload_n 0, 1) := by decide +kernel
theorem dX8_addWorld_87 : decode cX8_addWorld 87 = .ok (.getfield 7, 3) := by decide +kernel
theorem dX8_addWorld_90 : decode cX8_addWorld 90 = .ok (.iconst 0, 1) := by decide +kernel
theorem dX8_addWorld_91 : decode cX8_addWorld 91 = .ok (.iaload, 1) := by decide +kernel
theorem dX8_addWorld_92 : decode cX8_addWorld 92 = .ok (.iconst 1, 1) := by decide +kernel
theorem dX8_addWorld_93 : decode cX8_addWorld 93 = .ok (.isub, 1) := by decide +kernel
theorem dX8_addWorld_94 : decode cX8_addWorld 94 = .ok (.ireturn, 1) := by decide +kernel
theorem dX8_less_0 : decode cX8_less 0 = .ok (.iload_n 0, 1) := by decide +kernel
theorem dX8_less_1 : decode cX8_less 1 = .ok (.iconst 1, 1) := by decide +kernel
theorem dX8_less_2 : decode cX8_less 2 = .ok (.iload_n 1, 1) := by decide +kernel
theorem dX8_less_3 : decode cX8_less 3 = .ok (.ishl, 1) := by decide +kernel
theorem dX8_less_4 : decode cX8_less 4 = .ok (.iconst 1, 1) := by decide +kernel
theorem dX8_less_5 : decode cX8_less 5 = .ok (.isub, 1) := by decide +kernel
theorem dX8_less_6 : decode cX8_less 6 = .ok (.iand, 1) := by decide +kernel
theorem dX8_less_7 : decode cX8_less 7 = .ok (.istore_n 2, 1) := by decide +kernel
theorem dX8_less_8 : decode cX8_less 8 = .ok (.iload_n 2, 1) := by decide +kernel
theorem dX8_less_9 : decode cX8_less 9 = .ok (.iload_n 0, 1) := by decide +kernel
theorem dX8_less_10 : decode cX8_less 10 = .ok (.iload_n 1, 1) := by decide +kernel
theorem dX8_less_11 : decode cX8_less 11 = .ok (.iconst 1, 1) := by decide +kernel
theorem dX8_less_12 : decode cX8_less 12 = .ok (.iadd, 1) := by decide +kernel
theorem dX8_less_13 : decode cX8_less 13 = .ok (.ishr, 1) := by decide +kernel
theorem dX8_less_14 : decode cX8_less 14 = .ok (.iload_n 1, 1) := by decide +kernel
theorem dX8_less_15 : decode cX8_less 15 = .ok (.ishl, 1) := by decide +kernel
theorem dX8_less_16 : decode cX8_less 16 = .ok (.ior, 1) := by decide +kernel
theorem dX8_less_17 : decode cX8_less 17 = .ok (.ireturn, 1) := by decide +kernel
theorem dX8_removeWorld_0 : decode cX8_removeWorld 0 = .ok (.aload_n 0, 1) := by decide +kernel
theorem dX8_removeWorld_1 : decode cX8_removeWorld 1 = .ok (.aload_n 0, 1) := by decide +kernel
theorem dX8_removeWorld_2 : decode cX8_removeWorld 2 = .ok (.iload_n 1, 1) := by decide +kernel
theorem dX8_removeWorld_3 : decode cX8_removeWorld 3 = .ok (.invokevirtual 51, 3) := by decide +kernel
theorem dX8_removeWorld_6 : decode cX8_removeWorld 6 = .ok (.ifCond .eq 7, 3) := by decide +kernel
theorem dX8_removeWorld_9 : decode cX8_removeWorld 9 = .ok (.iconst 0, 1) := by decide +kernel
theorem dX8_removeWorld_10 : decode cX8_removeWorld 10 = .ok (.goto 4, 3) := by decide +kernel
theorem dX8_removeWorld_13 : decode cX8_removeWorld 13 = .ok (.iconst 1, 1) := by decide +kernel
theorem dX8_removeWorld_14 : decode cX8_removeWorld 14 = .ok (.putfield 37, 3) := by decide +kernel
theorem dX8_removeWorld_17 : decode cX8_removeWorld 17 = .ok (.aload_n 0, 1) := by decide +kernel
theorem dX8_removeWorld_18 : decode cX8_removeWorld 18 = .ok (.getfield 37, 3) := by decide +kernel
theorem dX8_removeWorld_21 : decode cX8_removeWorld 21 = .ok (.ifCond .le 5, 3) := by decide +kernel
theorem dX8_removeWorld_24 : decode cX8_removeWorld 24 = .ok (.iconst 0, 1) := by decide +kernel
theorem dX8_removeWorld_25 : decode cX8_removeWorld 25 = .ok (.ireturn, 1) := by decide +kernel
theorem dX8_removeWorld_26 : decode cX8_removeWorld 26 = .ok (.aload_n 0, 1) := by decide +kernel
theorem dX8_removeWorld_27 : decode cX8_removeWorld 27 = .ok (.invokevirtual 48, 3) := by decide +kernel
theorem dX8_removeWorld_30 : decode cX8_removeWorld 30 = .ok (.aload_n 0, 1) := by decide +kernel
theorem dX8_removeWorld_31 : decode cX8_removeWorld 31 = .ok (.getfield 7, 3) := by decide +kernel
theorem dX8_removeWorld_34 : decode cX8_removeWorld 34 = .ok (.iconst 0, 1) := by decide +kernel
theorem dX8_removeWorld_35 : decode cX8_removeWorld 35 = .ok (.dup2, 1) := by decide +kernel
theorem dX8_removeWorld_36 : decode cX8_removeWorld 36 = .ok (.iaload, 1) := by decide +kernel
theorem dX8_removeWorld_37 : decode cX8_removeWorld 37 = .ok (.iconst 1, 1) := by decide +kernel
theorem dX8_removeWorld_38 : decode cX8_removeWorld 38 = .ok (.isub, 1) := by decide +kernel
theorem dX8_removeWorld_39 : decode cX8_removeWorld 39 = .ok (.iastore, 1) := by decide +kernel
theorem dX8_removeWorld_40 : decode cX8_removeWorld 40 = .ok (.iload_n 1, 1) := by decide +kernel
theorem dX8_removeWorld_41 : decode cX8_removeWorld 41 = .ok (.istore_n 2, 1) := by decide +kernel
theorem dX8_removeWorld_42 : decode cX8_removeWorld 42 = .ok (.iload_n 2, 1) := by decide +kernel
theorem dX8_removeWorld_43 : decode cX8_removeWorld 43 = .ok (.aload_n 0, 1) := by decide +kernel
theorem dX8_removeWorld_44 : decode cX8_removeWorld 44 = .ok (.getfield 7, 3) := by decide +kernel
theorem dX8_removeWorld_47 : decode cX8_removeWorld 47 = .ok (.iconst 0, 1) := by decide +kernel
theorem dX8_removeWorld_48 : decode cX8_removeWorld 48 = .ok (.iaload, 1) := by decide +kernel
theorem dX8_removeWorld_49 : decode cX8_removeWorld 49 = .ok (.if_icmp .ge 47, 3) := by decide +kernel
theorem dX8_removeWorld_52 : decode cX8_removeWorld 52 = .ok (.aload_n 0, 1) := by decide +kernel
theorem dX8_removeWorld_53 : decode cX8_removeWorld 53 = .ok (.getfield 7, 3) := by decide +kernel
theorem dX8_removeWorld_56 : decode cX8_removeWorld 56 = .ok (.iconst 2, 1) := by decide +kernel
theorem dX8_removeWorld_57 : decode cX8_removeWorld 57 = .ok (.iload_n 2, 1) := by decide +kernel
theorem dX8_removeWorld_58 : decode cX8_removeWorld 58 = .ok (.iadd, 1) := by decide +kernel
theorem dX8_removeWorld_59 : decode cX8_removeWorld 59 = .ok (.aload_n 0, 1) := by decide +kernel
theorem dX8_removeWorld_60 : decode cX8_removeWorld 60 = .ok (.getfield 7, 3) := by decide +kernel
theorem dX8_removeWorld_63 : decode cX8_removeWorld 63 = .ok (.iconst 2, 1) := by decide +kernel
theorem dX8_removeWorld_64 : decode cX8_removeWorld 64 = .ok (.iload_n 2, 1) := by decide +kernel
theorem dX8_removeWorld_65 : decode cX8_removeWorld 65 = .ok (.iadd, 1) := by decide +kernel
theorem dX8_removeWorld_66 : decode cX8_removeWorld 66 = .ok (.iconst 1, 1) := by decide +kernel
theorem dX8_removeWorld_67 : decode cX8_removeWorld 67 = .ok (.iadd, 1) := by decide +kernel
theorem dX8_removeWorld_68 : decode cX8_removeWorld 68 = .ok (.iaload, 1) := by decide +kernel
theorem dX8_removeWorld_69 : decode cX8_removeWorld 69 = .ok (.iastore, 1) := by decide +kernel
theorem dX8_removeWorld_70 : decode cX8_removeWorld 70 = .ok (.aload_n 0, 1) := by decide +kernel
theorem dX8_removeWorld_71 : decode cX8_removeWorld 71 = .ok (.getfield 7, 3) := by decide +kernel
theorem dX8_removeWorld_74 : decode cX8_removeWorld 74 = .ok (.bipush 12, 2) := by decide +kernel
theorem dX8_removeWorld_76 : decode cX8_removeWorld 76 = .ok (.iload_n 2, 1) := by decide +kernel
theorem dX8_removeWorld_77 : decode cX8_removeWorld 77 = .ok (.iadd, 1) := by decide +kernel
theorem dX8_removeWorld_78 : decode cX8_removeWorld 78 = .ok (.aload_n 0, 1) := by decide +kernel
theorem dX8_removeWorld_79 : decode cX8_removeWorld 79 = .ok (.getfield 7, 3) := by decide +kernel
theorem dX8_removeWorld_82 : decode cX8_removeWorld 82 = .ok (.bipush 12, 2) := by decide +kernel
theorem dX8_removeWorld_84 : decode cX8_removeWorld 84 = .ok (.iload_n 2, 1) := by decide +kernel
theorem dX8_removeWorld_85 : decode cX8_removeWorld 85 = .ok (.iadd, 1) := by decide +kernel
theorem dX8_removeWorld_86 : decode cX8_removeWorld 86 = .ok (.iconst 1, 1) := by decide +kernel
theorem dX8_removeWorld_87 : decode cX8_removeWorld 87 = .ok (.iadd, 1) := by decide +kernel
theorem dX8_removeWorld_88 : decode cX8_removeWorld 88 = .ok (.iaload, 1) := by decide +kernel
theorem dX8_removeWorld_89 : decode cX8_removeWorld 89 = .ok (.iastore, 1) := by decide +kernel
theorem dX8_removeWorld_90 : decode cX8_removeWorld 90 = .ok (.iinc 2 1, 3) := by decide +kernel
theorem dX8_removeWorld_93 : decode cX8_removeWorld 93 = .ok (.goto (-51), 3) := by decide +kernel
theorem dX8_removeWorld_96 : decode cX8_removeWorld 96 = .ok (.aload_n 0, 1) := by decide +kernel
theorem dX8_removeWorld_97 : decode cX8_removeWorld 97 = .ok (.getfield 7, 3) := by decide +kernel
theorem dX8_removeWorld_100 : decode cX8_removeWorld 100 = .ok (.iconst 2, 1) := by decide +kernel
theorem dX8_removeWorld_101 : decode cX8_removeWorld 101 = .ok (.aload_n 0, 1) := by decide +kernel
theorem dX8_removeWorld_102 : decode cX8_removeWorld 102 = .ok (.getfield 7, 3) := by decide +kernel
theorem dX8_removeWorld_105 : decode cX8_removeWorld 105 = .ok (.iconst 0, 1) := by decide +kernel
theorem dX8_removeWorld_106 : decode cX8_removeWorld 106 = .ok (.iaload, 1) := by decide +kernel
theorem dX8_removeWorld_107 : decode cX8_removeWorld 107 = .ok (.iadd, 1) := by decide +kernel
theorem dX8_removeWorld_108 : decode cX8_removeWorld 108 = .ok (.iconst 0, 1) := by decide +kernel
theorem dX8_removeWorld_109 : decode cX8_removeWorld 109 = .ok (.iastore, 1) := by decide +kernel
theorem dX8_removeWorld_110 : decode cX8_removeWorld 110 = .ok (.aload_n 0, 1) := by decide +kernel
theorem dX8_removeWorld_111 : decode cX8_removeWorld 111 = .ok (.getfield 7, 3) := by decide +kernel
theorem dX8_removeWorld_114 : decode cX8_removeWorld 114 = .ok (.bipush 12, 2) := by decide +kernel
theorem dX8_removeWorld_116 : decode cX8_removeWorld 116 = .ok (.aload_n 0, 1) := by decide +kernel
theorem dX8_removeWorld_117 : decode cX8_removeWorld 117 = .ok (.getfield 7, 3) := by decide +kernel
theorem dX8_removeWorld_120 : decode cX8_removeWorld 120 = .ok (.iconst 0, 1) := by decide +kernel
theorem dX8_removeWorld_121 : decode cX8_removeWorld 121 = .ok (.iaload, 1) := by decide +kernel
theorem dX8_removeWorld_122 : decode cX8_removeWorld 122 = .ok (.iadd, 1) := by decide +kernel
theorem dX8_removeWorld_123 : decode cX8_removeWorld 123 = .ok (.iconst 0, 1) := by decide +kernel
theorem dX8_removeWorld_124 : decode cX8_removeWorld 124 = .ok (.iastore, 1) := by decide +kernel
theorem dX8_removeWorld_125 : decode cX8_removeWorld 125 = .ok (.iconst 0, 1) := by decide +kernel
theorem dX8_removeWorld_126 : decode cX8_removeWorld 126 = .ok (.istore_n 2, 1) := by decide +kernel
theorem dX8_removeWorld_127 : decode cX8_removeWorld 127 = .ok (.iload_n 2, 1) := by decide +kernel
theorem dX8_removeWorld_128 : decode cX8_removeWorld 128 = .ok (.aload_n 0, 1) := by decide +kernel
theorem dX8_removeWorld_129 : decode cX8_removeWorld 129 = .ok (.getfield 7, 3) := by decide +kernel
theorem dX8_removeWorld_132 : decode cX8_removeWorld 132 = .ok (.iconst 0, 1) := by decide +kernel
theorem dX8_removeWorld_133 : decode cX8_removeWorld 133 = .ok (.iaload, 1) := by decide +kernel
theorem dX8_removeWorld_134 : decode cX8_removeWorld 134 = .ok (.if_icmp .ge 31, 3) := by decide +kernel
theorem dX8_removeWorld_137 : decode cX8_removeWorld 137 = .ok (.aload_n 0, 1) := by decide +kernel
theorem dX8_removeWorld_138 : decode cX8_removeWorld 138 = .ok (.getfield 7, 3) := by decide +kernel
theorem dX8_removeWorld_141 : decode cX8_removeWorld 141 = .ok (.bipush 12, 2) := by decide +kernel
theorem dX8_removeWorld_143 : decode cX8_removeWorld 143 = .ok (.iload_n 2, 1) := by decide +kernel
theorem dX8_removeWorld_144 : decode cX8_removeWorld 144 = .ok (.iadd, 1) := by decide +kernel
theorem dX8_removeWorld_145 : decode cX8_removeWorld 145 = .ok (.aload_n 0, 1) := by decide +kernel
theorem dX8_removeWorld_146 : decode cX8_removeWorld 146 = .ok (.getfield 7, 3) := by decide +kernel
theorem dX8_removeWorld_149 : decode cX8_removeWorld 149 = .ok (.bipush 12, 2) := by decide +kernel
theorem dX8_removeWorld_151 : decode cX8_removeWorld 151 = .ok (.iload_n 2, 1) := by decide +kernel
theorem dX8_removeWorld_152 : decode cX8_removeWorld 152 = .ok (.iadd, 1) := by decide +kernel
theorem dX8_removeWorld_153 : decode cX8_removeWorld 153 = .ok (.iaload, 1) := by decide +kernel
theorem dX8_removeWorld_154 : decode cX8_removeWorld 154 = .ok (.iload_n 1, 1) := by decide +kernel
theorem dX8_removeWorld_155 : decode cX8_removeWorld 155 = .ok (.invokestatic 55, 3) := by decide +kernel
theorem dX8_removeWorld_158 : decode cX8_removeWorld 158 = .ok (.iastore, 1) := by decide +kernel
theorem dX8_removeWorld_159 : decode cX8_removeWorld 159 = .ok (.iinc 2 1, 3) := by decide +kernel
theorem dX8_removeWorld_162 : decode cX8_removeWorld 162 = .ok (.goto (-35), 3) := by decide +kernel
theorem dX8_removeWorld_165 : decode cX8_removeWorld 165 = .ok (.aload_n 0, 1) := by decide +kernel
theorem dX8_removeWorld_166 : decode cX8_removeWorld 166 = .ok (.getfield 7, 3) := by decide +kernel
theorem dX8_removeWorld_169 : decode cX8_removeWorld 169 = .ok (.iconst 0, 1) := by decide +kernel
theorem dX8_removeWorld_170 : decode cX8_removeWorld 170 = .ok (.iaload, 1) := by decide +kernel
theorem dX8_removeWorld_171 : decode cX8_removeWorld 171 = .ok (.ireturn, 1) := by decide +kernel
theorem dX8_step_0 : decode cX8_step 0 = .ok (.aload_n 0, 1) := by decide +kernel
theorem dX8_step_1 : decode cX8_step 1 = .ok (.aload_n 0, 1) := by decide +kernel
theorem dX8_step_2 : decode cX8_step 2 = .ok (.iload_n 1, 1) := by decide +kernel
theorem dX8_step_3 : decode cX8_step 3 = .ok (.invokevirtual 51, 3) := by decide +kernel
theorem dX8_step_6 : decode cX8_step 6 = .ok (.ifCond .eq 15, 3) := by decide +kernel
theorem dX8_step_9 : decode cX8_step 9 = .ok (.aload_n 0, 1) := by decide +kernel
theorem dX8_step_10 : decode cX8_step 10 = .ok (.iload_n 2, 1) := by decide +kernel
theorem dX8_step_11 : decode cX8_step 11 = .ok (.invokevirtual 51, 3) := by decide +kernel
theorem dX8_step_14 : decode cX8_step 14 = .ok (.ifCond .eq 7, 3) := by decide +kernel
theorem dX8_step_17 : decode cX8_step 17 = .ok (.iconst 0, 1) := by decide +kernel
theorem dX8_step_18 : decode cX8_step 18 = .ok (.goto 4, 3) := by decide +kernel
theorem dX8_step_21 : decode cX8_step 21 = .ok (.iconst 1, 1) := by decide +kernel
theorem dX8_step_22 : decode cX8_step 22 = .ok (.putfield 37, 3) := by decide +kernel
theorem dX8_step_25 : decode cX8_step 25 = .ok (.aload_n 0, 1) := by decide +kernel
theorem dX8_step_26 : decode cX8_step 26 = .ok (.getfield 37, 3) := by decide +kernel
theorem dX8_step_29 : decode cX8_step 29 = .ok (.ifCond .le 5, 3) := by decide +kernel
theorem dX8_step_32 : decode cX8_step 32 = .ok (.iconst 0, 1) := by decide +kernel
theorem dX8_step_33 : decode cX8_step 33 = .ok (.ireturn, 1) := by decide +kernel
theorem dX8_step_34 : decode cX8_step 34 = .ok (.aload_n 0, 1) := by decide +kernel
theorem dX8_step_35 : decode cX8_step 35 = .ok (.invokevirtual 48, 3) := by decide +kernel
theorem dX8_step_38 : decode cX8_step 38 = .ok (.aload_n 0, 1) := by decide +kernel
theorem dX8_step_39 : decode cX8_step 39 = .ok (.getfield 7, 3) := by decide +kernel
theorem dX8_step_42 : decode cX8_step 42 = .ok (.bipush 12, 2) := by decide +kernel
theorem dX8_step_44 : decode cX8_step 44 = .ok (.iload_n 1, 1) := by decide +kernel
theorem dX8_step_45 : decode cX8_step 45 = .ok (.iadd, 1) := by decide +kernel
theorem dX8_step_46 : decode cX8_step 46 = .ok (.dup2, 1) := by decide +kernel
theorem dX8_step_47 : decode cX8_step 47 = .ok (.iaload, 1) := by decide +kernel
theorem dX8_step_48 : decode cX8_step 48 = .ok (.iconst 1, 1) := by decide +kernel
theorem dX8_step_49 : decode cX8_step 49 = .ok (.iload_n 2, 1) := by decide +kernel
theorem dX8_step_50 : decode cX8_step 50 = .ok (.ishl, 1) := by decide +kernel
theorem dX8_step_51 : decode cX8_step 51 = .ok (.ixor, 1) := by decide +kernel
theorem dX8_step_52 : decode cX8_step 52 = .ok (.iastore, 1) := by decide +kernel
theorem dX8_step_53 : decode cX8_step 53 = .ok (.aload_n 0, 1) := by decide +kernel
theorem dX8_step_54 : decode cX8_step 54 = .ok (.getfield 7, 3) := by decide +kernel
theorem dX8_step_57 : decode cX8_step 57 = .ok (.bipush 12, 2) := by decide +kernel
theorem dX8_step_59 : decode cX8_step 59 = .ok (.iload_n 1, 1) := by decide +kernel
theorem dX8_step_60 : decode cX8_step 60 = .ok (.iadd, 1) := by decide +kernel
theorem dX8_step_61 : decode cX8_step 61 = .ok (.iaload, 1) := by decide +kernel
theorem dX8_step_62 : decode cX8_step 62 = .ok (.iload_n 2, 1) := by decide +kernel
theorem dX8_step_63 : decode cX8_step 63 = .ok (.ishr, 1) := by decide +kernel
theorem dX8_step_64 : decode cX8_step 64 = .ok (.iconst 1, 1) := by decide +kernel
theorem dX8_step_65 : decode cX8_step 65 = .ok (.iand, 1) := by decide +kernel
theorem dX8_step_66 : decode cX8_step 66 = .ok (.ireturn, 1) := by decide +kernel
theorem dX8_flip_0 : decode cX8_flip 0 = .ok (.aload_n 0, 1) := by decide +kernel
theorem dX8_flip_1 : decode cX8_flip 1 = .ok (.aload_n 0, 1) := by decide +kernel
theorem dX8_flip_2 : decode cX8_flip 2 = .ok (.iload_n 1, 1) := by decide +kernel
theorem dX8_flip_3 : decode cX8_flip 3 = .ok (.invokevirtual 51, 3) := by decide +kernel
theorem dX8_flip_6 : decode cX8_flip 6 = .ok (.ifCond .ne 7, 3) := by decide +kernel
theorem dX8_flip_9 : decode cX8_flip 9 = .ok (.iconst 1, 1) := by decide +kernel
theorem dX8_flip_10 : decode cX8_flip 10 = .ok (.goto 17, 3) := by decide +kernel
theorem dX8_flip_13 : decode cX8_flip 13 = .ok (.iload_n 2, 1) := by decide +kernel
theorem dX8_flip_14 : decode cX8_flip 14 = .ok (.iconst 0, 1) := by decide +kernel
theorem dX8_flip_15 : decode cX8_flip 15 = .ok (.iconst 3, 1) := by decide +kernel
theorem dX8_flip_16 : decode cX8_flip 16 = .ok (.invokestatic 41, 3) := by decide +kernel
theorem dX8_flip_19 : decode cX8_flip 19 = .ok (.ifCond .ne 7, 3) := by decide +kernel
theorem dX8_flip_22 : decode cX8_flip 22 = .ok (.iconst 2, 1) := by decide +kernel
theorem dX8_flip_23 : decode cX8_flip 23 = .ok (.goto 4, 3) := by decide +kernel
theorem dX8_flip_26 : decode cX8_flip 26 = .ok (.iconst 0, 1) := by decide +kernel
theorem dX8_flip_27 : decode cX8_flip 27 = .ok (.putfield 37, 3) := by decide +kernel
theorem dX8_flip_30 : decode cX8_flip 30 = .ok (.aload_n 0, 1) := by decide +kernel
theorem dX8_flip_31 : decode cX8_flip 31 = .ok (.getfield 37, 3) := by decide +kernel
theorem dX8_flip_34 : decode cX8_flip 34 = .ok (.ifCond .le 5, 3) := by decide +kernel
theorem dX8_flip_37 : decode cX8_flip 37 = .ok (.iconst 0, 1) := by decide +kernel
theorem dX8_flip_38 : decode cX8_flip 38 = .ok (.ireturn, 1) := by decide +kernel
theorem dX8_flip_39 : decode cX8_flip 39 = .ok (.aload_n 0, 1) := by decide +kernel
theorem dX8_flip_40 : decode cX8_flip 40 = .ok (.invokevirtual 48, 3) := by decide +kernel
theorem dX8_flip_43 : decode cX8_flip 43 = .ok (.aload_n 0, 1) := by decide +kernel
theorem dX8_flip_44 : decode cX8_flip 44 = .ok (.getfield 7, 3) := by decide +kernel
theorem dX8_flip_47 : decode cX8_flip 47 = .ok (.iconst 2, 1) := by decide +kernel
theorem dX8_flip_48 : decode cX8_flip 48 = .ok (.iload_n 1, 1) := by decide +kernel
theorem dX8_flip_49 : decode cX8_flip 49 = .ok (.iadd, 1) := by decide +kernel
theorem dX8_flip_50 : decode cX8_flip 50 = .ok (.dup2, 1) := by decide +kernel
theorem dX8_flip_51 : decode cX8_flip 51 = .ok (.iaload, 1) := by decide +kernel
theorem dX8_flip_52 : decode cX8_flip 52 = .ok (.iconst 1, 1) := by decide +kernel
theorem dX8_flip_53 : decode cX8_flip 53 = .ok (.iload_n 2, 1) := by decide +kernel
theorem dX8_flip_54 : decode cX8_flip 54 = .ok (.ishl, 1) := by decide +kernel
theorem dX8_flip_55 : decode cX8_flip 55 = .ok (.ixor, 1) := by decide +kernel
theorem dX8_flip_56 : decode cX8_flip 56 = .ok (.iastore, 1) := by decide +kernel
theorem dX8_flip_57 : decode cX8_flip 57 = .ok (.aload_n 0, 1) := by decide +kernel
theorem dX8_flip_58 : decode cX8_flip 58 = .ok (.getfield 7, 3) := by decide +kernel
theorem dX8_flip_61 : decode cX8_flip 61 = .ok (.iconst 2, 1) := by decide +kernel
theorem dX8_flip_62 : decode cX8_flip 62 = .ok (.iload_n 1, 1) := by decide +kernel
theorem dX8_flip_63 : decode cX8_flip 63 = .ok (.iadd, 1) := by decide +kernel
theorem dX8_flip_64 : decode cX8_flip 64 = .ok (.iaload, 1) := by decide +kernel
theorem dX8_flip_65 : decode cX8_flip 65 = .ok (.ireturn, 1) := by decide +kernel
theorem dX8_fair_0 : decode cX8_fair 0 = .ok (.aload_n 0, 1) := by decide +kernel
theorem dX8_fair_1 : decode cX8_fair 1 = .ok (.iload_n 1, 1) := by decide +kernel
theorem dX8_fair_2 : decode cX8_fair 2 = .ok (.iconst (-1), 1) := by decide +kernel
theorem dX8_fair_3 : decode cX8_fair 3 = .ok (.iconst 3, 1) := by decide +kernel
theorem dX8_fair_4 : decode cX8_fair 4 = .ok (.invokestatic 41, 3) := by decide +kernel
theorem dX8_fair_7 : decode cX8_fair 7 = .ok (.ifCond .eq 7, 3) := by decide +kernel
theorem dX8_fair_10 : decode cX8_fair 10 = .ok (.iconst 0, 1) := by decide +kernel
theorem dX8_fair_11 : decode cX8_fair 11 = .ok (.goto 4, 3) := by decide +kernel
theorem dX8_fair_14 : decode cX8_fair 14 = .ok (.iconst 1, 1) := by decide +kernel
theorem dX8_fair_15 : decode cX8_fair 15 = .ok (.putfield 37, 3) := by decide +kernel
theorem dX8_fair_18 : decode cX8_fair 18 = .ok (.aload_n 0, 1) := by decide +kernel
theorem dX8_fair_19 : decode cX8_fair 19 = .ok (.getfield 37, 3) := by decide +kernel
theorem dX8_fair_22 : decode cX8_fair 22 = .ok (.ifCond .le 5, 3) := by decide +kernel
theorem dX8_fair_25 : decode cX8_fair 25 = .ok (.iconst 0, 1) := by decide +kernel
theorem dX8_fair_26 : decode cX8_fair 26 = .ok (.ireturn, 1) := by decide +kernel
theorem dX8_fair_27 : decode cX8_fair 27 = .ok (.aload_n 0, 1) := by decide +kernel
theorem dX8_fair_28 : decode cX8_fair 28 = .ok (.invokevirtual 48, 3) := by decide +kernel
theorem dX8_fair_31 : decode cX8_fair 31 = .ok (.aload_n 0, 1) := by decide +kernel
theorem dX8_fair_32 : decode cX8_fair 32 = .ok (.getfield 7, 3) := by decide +kernel
theorem dX8_fair_35 : decode cX8_fair 35 = .ok (.iconst 1, 1) := by decide +kernel
theorem dX8_fair_36 : decode cX8_fair 36 = .ok (.iaload, 1) := by decide +kernel
theorem dX8_fair_37 : decode cX8_fair 37 = .ok (.istore_n 2, 1) := by decide +kernel
theorem dX8_fair_38 : decode cX8_fair 38 = .ok (.aload_n 0, 1) := by decide +kernel
theorem dX8_fair_39 : decode cX8_fair 39 = .ok (.getfield 7, 3) := by decide +kernel
theorem dX8_fair_42 : decode cX8_fair 42 = .ok (.iconst 1, 1) := by decide +kernel
theorem dX8_fair_43 : decode cX8_fair 43 = .ok (.iload_n 1, 1) := by decide +kernel
theorem dX8_fair_44 : decode cX8_fair 44 = .ok (.iastore, 1) := by decide +kernel
theorem dX8_fair_45 : decode cX8_fair 45 = .ok (.iload_n 2, 1) := by decide +kernel
theorem dX8_fair_46 : decode cX8_fair 46 = .ok (.ireturn, 1) := by decide +kernel
theorem dX8_stepMany_0 : decode cX8_stepMany 0 = .ok (.iconst 0, 1) := by decide +kernel
theorem dX8_stepMany_1 : decode cX8_stepMany 1 = .ok (.istore_n 1, 1) := by decide +kernel
theorem dX8_stepMany_2 : decode cX8_stepMany 2 = .ok (.iconst 0, 1) := by decide +kernel
theorem dX8_stepMany_3 : decode cX8_stepMany 3 = .ok (.istore_n 2, 1) := by decide +kernel
theorem dX8_stepMany_4 : decode cX8_stepMany 4 = .ok (.iload_n 2, 1) := by decide +kernel
theorem dX8_stepMany_5 : decode cX8_stepMany 5 = .ok (.aload_n 0, 1) := by decide +kernel
theorem dX8_stepMany_6 : decode cX8_stepMany 6 = .ok (.getfield 7, 3) := by decide +kernel
theorem dX8_stepMany_9 : decode cX8_stepMany 9 = .ok (.iconst 0, 1) := by decide +kernel
theorem dX8_stepMany_10 : decode cX8_stepMany 10 = .ok (.iaload, 1) := by decide +kernel
theorem dX8_stepMany_11 : decode cX8_stepMany 11 = .ok (.if_icmp .ge 24, 3) := by decide +kernel
theorem dX8_stepMany_14 : decode cX8_stepMany 14 = .ok (.iload_n 1, 1) := by decide +kernel
theorem dX8_stepMany_15 : decode cX8_stepMany 15 = .ok (.aload_n 0, 1) := by decide +kernel
theorem dX8_stepMany_16 : decode cX8_stepMany 16 = .ok (.getfield 7, 3) := by decide +kernel
theorem dX8_stepMany_19 : decode cX8_stepMany 19 = .ok (.bipush 12, 2) := by decide +kernel
theorem dX8_stepMany_21 : decode cX8_stepMany 21 = .ok (.iload_n 2, 1) := by decide +kernel
theorem dX8_stepMany_22 : decode cX8_stepMany 22 = .ok (.iadd, 1) := by decide +kernel
theorem dX8_stepMany_23 : decode cX8_stepMany 23 = .ok (.iaload, 1) := by decide +kernel
theorem dX8_stepMany_24 : decode cX8_stepMany 24 = .ok (.invokestatic 59, 3) := by decide +kernel
theorem dX8_stepMany_27 : decode cX8_stepMany 27 = .ok (.iadd, 1) := by decide +kernel
theorem dX8_stepMany_28 : decode cX8_stepMany 28 = .ok (.istore_n 1, 1) := by decide +kernel
theorem dX8_stepMany_29 : decode cX8_stepMany 29 = .ok (.iinc 2 1, 3) := by decide +kernel
theorem dX8_stepMany_32 : decode cX8_stepMany 32 = .ok (.goto (-28), 3) := by decide +kernel
theorem dX8_stepMany_35 : decode cX8_stepMany 35 = .ok (.iload_n 1, 1) := by decide +kernel
theorem dX8_stepMany_36 : decode cX8_stepMany 36 = .ok (.ireturn, 1) := by decide +kernel
theorem dX8_ring_0 : decode cX8_ring 0 = .ok (.aload_n 0, 1) := by decide +kernel
theorem dX8_ring_1 : decode cX8_ring 1 = .ok (.iconst 0, 1) := by decide +kernel
theorem dX8_ring_2 : decode cX8_ring 2 = .ok (.putfield 37, 3) := by decide +kernel
theorem dX8_ring_5 : decode cX8_ring 5 = .ok (.aload_n 0, 1) := by decide +kernel
theorem dX8_ring_6 : decode cX8_ring 6 = .ok (.invokevirtual 48, 3) := by decide +kernel
theorem dX8_ring_9 : decode cX8_ring 9 = .ok (.iconst 0, 1) := by decide +kernel
theorem dX8_ring_10 : decode cX8_ring 10 = .ok (.istore_n 1, 1) := by decide +kernel
theorem dX8_ring_11 : decode cX8_ring 11 = .ok (.iload_n 1, 1) := by decide +kernel
theorem dX8_ring_12 : decode cX8_ring 12 = .ok (.aload_n 0, 1) := by decide +kernel
theorem dX8_ring_13 : decode cX8_ring 13 = .ok (.getfield 7, 3) := by decide +kernel
theorem dX8_ring_16 : decode cX8_ring 16 = .ok (.iconst 0, 1) := by decide +kernel
theorem dX8_ring_17 : decode cX8_ring 17 = .ok (.iaload, 1) := by decide +kernel
theorem dX8_ring_18 : decode cX8_ring 18 = .ok (.if_icmp .ge 33, 3) := by decide +kernel
theorem dX8_ring_21 : decode cX8_ring 21 = .ok (.aload_n 0, 1) := by decide +kernel
theorem dX8_ring_22 : decode cX8_ring 22 = .ok (.getfield 7, 3) := by decide +kernel
theorem dX8_ring_25 : decode cX8_ring 25 = .ok (.bipush 12, 2) := by decide +kernel
theorem dX8_ring_27 : decode cX8_ring 27 = .ok (.iload_n 1, 1) := by decide +kernel
theorem dX8_ring_28 : decode cX8_ring 28 = .ok (.iadd, 1) := by decide +kernel
theorem dX8_ring_29 : decode cX8_ring 29 = .ok (.dup2, 1) := by decide +kernel
theorem dX8_ring_30 : decode cX8_ring 30 = .ok (.iaload, 1) := by decide +kernel
theorem dX8_ring_31 : decode cX8_ring 31 = .ok (.iconst 1, 1) := by decide +kernel
theorem dX8_ring_32 : decode cX8_ring 32 = .ok (.iload_n 1, 1) := by decide +kernel
theorem dX8_ring_33 : decode cX8_ring 33 = .ok (.iconst 1, 1) := by decide +kernel
theorem dX8_ring_34 : decode cX8_ring 34 = .ok (.iadd, 1) := by decide +kernel
theorem dX8_ring_35 : decode cX8_ring 35 = .ok (.aload_n 0, 1) := by decide +kernel
theorem dX8_ring_36 : decode cX8_ring 36 = .ok (.getfield 7, 3) := by decide +kernel
theorem dX8_ring_39 : decode cX8_ring 39 = .ok (.iconst 0, 1) := by decide +kernel
theorem dX8_ring_40 : decode cX8_ring 40 = .ok (.iaload, 1) := by decide +kernel
theorem dX8_ring_41 : decode cX8_ring 41 = .ok (.irem, 1) := by decide +kernel
theorem dX8_ring_42 : decode cX8_ring 42 = .ok (.ishl, 1) := by decide +kernel
theorem dX8_ring_43 : decode cX8_ring 43 = .ok (.ior, 1) := by decide +kernel
theorem dX8_ring_44 : decode cX8_ring 44 = .ok (.iastore, 1) := by decide +kernel
theorem dX8_ring_45 : decode cX8_ring 45 = .ok (.iinc 1 1, 3) := by decide +kernel
theorem dX8_ring_48 : decode cX8_ring 48 = .ok (.goto (-37), 3) := by decide +kernel
theorem dX8_ring_51 : decode cX8_ring 51 = .ok (.aload_n 0, 1) := by decide +kernel
theorem dX8_ring_52 : decode cX8_ring 52 = .ok (.invokevirtual 63, 3) := by decide +kernel
theorem dX8_ring_55 : decode cX8_ring 55 = .ok (.ireturn, 1) := by decide +kernel
theorem dX8_withLetter_0 : decode cX8_withLetter 0 = .ok (.iconst 0, 1) := by decide +kernel
theorem dX8_withLetter_1 : decode cX8_withLetter 1 = .ok (.istore_n 2, 1) := by decide +kernel
theorem dX8_withLetter_2 : decode cX8_withLetter 2 = .ok (.iconst 0, 1) := by decide +kernel
theorem dX8_withLetter_3 : decode cX8_withLetter 3 = .ok (.istore_n 3, 1) := by decide +kernel
theorem dX8_withLetter_4 : decode cX8_withLetter 4 = .ok (.iload_n 3, 1) := by decide +kernel
theorem dX8_withLetter_5 : decode cX8_withLetter 5 = .ok (.aload_n 0, 1) := by decide +kernel
theorem dX8_withLetter_6 : decode cX8_withLetter 6 = .ok (.getfield 7, 3) := by decide +kernel
theorem dX8_withLetter_9 : decode cX8_withLetter 9 = .ok (.iconst 0, 1) := by decide +kernel
theorem dX8_withLetter_10 : decode cX8_withLetter 10 = .ok (.iaload, 1) := by decide +kernel
theorem dX8_withLetter_11 : decode cX8_withLetter 11 = .ok (.if_icmp .ge 26, 3) := by decide +kernel
theorem dX8_withLetter_14 : decode cX8_withLetter 14 = .ok (.iload_n 2, 1) := by decide +kernel
theorem dX8_withLetter_15 : decode cX8_withLetter 15 = .ok (.aload_n 0, 1) := by decide +kernel
theorem dX8_withLetter_16 : decode cX8_withLetter 16 = .ok (.getfield 7, 3) := by decide +kernel
theorem dX8_withLetter_19 : decode cX8_withLetter 19 = .ok (.iconst 2, 1) := by decide +kernel
theorem dX8_withLetter_20 : decode cX8_withLetter 20 = .ok (.iload_n 3, 1) := by decide +kernel
theorem dX8_withLetter_21 : decode cX8_withLetter 21 = .ok (.iadd, 1) := by decide +kernel
theorem dX8_withLetter_22 : decode cX8_withLetter 22 = .ok (.iaload, 1) := by decide +kernel
theorem dX8_withLetter_23 : decode cX8_withLetter 23 = .ok (.iload_n 1, 1) := by decide +kernel
theorem dX8_withLetter_24 : decode cX8_withLetter 24 = .ok (.ishr, 1) := by decide +kernel
theorem dX8_withLetter_25 : decode cX8_withLetter 25 = .ok (.iconst 1, 1) := by decide +kernel
theorem dX8_withLetter_26 : decode cX8_withLetter 26 = .ok (.iand, 1) := by decide +kernel
theorem dX8_withLetter_27 : decode cX8_withLetter 27 = .ok (.iload_n 3, 1) := by decide +kernel
theorem dX8_withLetter_28 : decode cX8_withLetter 28 = .ok (.ishl, 1) := by decide +kernel
theorem dX8_withLetter_29 : decode cX8_withLetter 29 = .ok (.ior, 1) := by decide +kernel
theorem dX8_withLetter_30 : decode cX8_withLetter 30 = .ok (.istore_n 2, 1) := by decide +kernel
theorem dX8_withLetter_31 : decode cX8_withLetter 31 = .ok (.iinc 3 1, 3) := by decide +kernel
theorem dX8_withLetter_34 : decode cX8_withLetter 34 = .ok (.goto (-30), 3) := by decide +kernel
theorem dX8_withLetter_37 : decode cX8_withLetter 37 = .ok (.iload_n 2, 1) := by decide +kernel
theorem dX8_withLetter_38 : decode cX8_withLetter 38 = .ok (.ireturn, 1) := by decide +kernel
theorem dX8_into_0 : decode cX8_into 0 = .ok (.iconst 0, 1) := by decide +kernel
theorem dX8_into_1 : decode cX8_into 1 = .ok (.istore_n 2, 1) := by decide +kernel
theorem dX8_into_2 : decode cX8_into 2 = .ok (.iconst 0, 1) := by decide +kernel
theorem dX8_into_3 : decode cX8_into 3 = .ok (.istore_n 3, 1) := by decide +kernel
theorem dX8_into_4 : decode cX8_into 4 = .ok (.iload_n 3, 1) := by decide +kernel
theorem dX8_into_5 : decode cX8_into 5 = .ok (.aload_n 0, 1) := by decide +kernel
theorem dX8_into_6 : decode cX8_into 6 = .ok (.getfield 7, 3) := by decide +kernel
theorem dX8_into_9 : decode cX8_into 9 = .ok (.iconst 0, 1) := by decide +kernel
theorem dX8_into_10 : decode cX8_into 10 = .ok (.iaload, 1) := by decide +kernel
theorem dX8_into_11 : decode cX8_into 11 = .ok (.if_icmp .ge 33, 3) := by decide +kernel
theorem dX8_into_14 : decode cX8_into 14 = .ok (.iload_n 2, 1) := by decide +kernel
theorem dX8_into_15 : decode cX8_into 15 = .ok (.aload_n 0, 1) := by decide +kernel
theorem dX8_into_16 : decode cX8_into 16 = .ok (.getfield 7, 3) := by decide +kernel
theorem dX8_into_19 : decode cX8_into 19 = .ok (.bipush 12, 2) := by decide +kernel
theorem dX8_into_21 : decode cX8_into 21 = .ok (.iload_n 3, 1) := by decide +kernel
theorem dX8_into_22 : decode cX8_into 22 = .ok (.iadd, 1) := by decide +kernel
theorem dX8_into_23 : decode cX8_into 23 = .ok (.iaload, 1) := by decide +kernel
theorem dX8_into_24 : decode cX8_into 24 = .ok (.iload_n 1, 1) := by decide +kernel
theorem dX8_into_25 : decode cX8_into 25 = .ok (.iand, 1) := by decide +kernel
theorem dX8_into_26 : decode cX8_into 26 = .ok (.ifCond .eq 9, 3) := by decide +kernel
theorem dX8_into_29 : decode cX8_into 29 = .ok (.iconst 1, 1) := by decide +kernel
theorem dX8_into_30 : decode cX8_into 30 = .ok (.iload_n 3, 1) := by decide +kernel
theorem dX8_into_31 : decode cX8_into 31 = .ok (.ishl, 1) := by decide +kernel
theorem dX8_into_32 : decode cX8_into 32 = .ok (.goto 4, 3) := by decide +kernel
theorem dX8_into_35 : decode cX8_into 35 = .ok (.iconst 0, 1) := by decide +kernel
theorem dX8_into_36 : decode cX8_into 36 = .ok (.ior, 1) := by decide +kernel
theorem dX8_into_37 : decode cX8_into 37 = .ok (.istore_n 2, 1) := by decide +kernel
theorem dX8_into_38 : decode cX8_into 38 = .ok (.iinc 3 1, 3) := by decide +kernel
theorem dX8_into_41 : decode cX8_into 41 = .ok (.goto (-37), 3) := by decide +kernel
theorem dX8_into_44 : decode cX8_into 44 = .ok (.iload_n 2, 1) := by decide +kernel
theorem dX8_into_45 : decode cX8_into 45 = .ok (.ireturn, 1) := by decide +kernel
theorem dX8_goals_0 : decode cX8_goals 0 = .ok (.aload_n 0, 1) := by decide +kernel
theorem dX8_goals_1 : decode cX8_goals 1 = .ok (.getfield 7, 3) := by decide +kernel
theorem dX8_goals_4 : decode cX8_goals 4 = .ok (.iconst 1, 1) := by decide +kernel
theorem dX8_goals_5 : decode cX8_goals 5 = .ok (.iaload, 1) := by decide +kernel
theorem dX8_goals_6 : decode cX8_goals 6 = .ok (.iconst (-1), 1) := by decide +kernel
theorem dX8_goals_7 : decode cX8_goals 7 = .ok (.if_icmp .ne 7, 3) := by decide +kernel
theorem dX8_goals_10 : decode cX8_goals 10 = .ok (.iload_n 1, 1) := by decide +kernel
theorem dX8_goals_11 : decode cX8_goals 11 = .ok (.goto 15, 3) := by decide +kernel
theorem dX8_goals_14 : decode cX8_goals 14 = .ok (.iload_n 1, 1) := by decide +kernel
theorem dX8_goals_15 : decode cX8_goals 15 = .ok (.aload_n 0, 1) := by decide +kernel
theorem dX8_goals_16 : decode cX8_goals 16 = .ok (.aload_n 0, 1) := by decide +kernel
theorem dX8_goals_17 : decode cX8_goals 17 = .ok (.getfield 7, 3) := by decide +kernel
theorem dX8_goals_20 : decode cX8_goals 20 = .ok (.iconst 1, 1) := by decide +kernel
theorem dX8_goals_21 : decode cX8_goals 21 = .ok (.iaload, 1) := by decide +kernel
theorem dX8_goals_22 : decode cX8_goals 22 = .ok (.invokevirtual 67, 3) := by decide +kernel
theorem dX8_goals_25 : decode cX8_goals 25 = .ok (.iand, 1) := by decide +kernel
theorem dX8_goals_26 : decode cX8_goals 26 = .ok (.ireturn, 1) := by decide +kernel
theorem dX8_stays_0 : decode cX8_stays 0 = .ok (.iload_n 1, 1) := by decide +kernel
theorem dX8_stays_1 : decode cX8_stays 1 = .ok (.istore_n 2, 1) := by decide +kernel
theorem dX8_stays_2 : decode cX8_stays 2 = .ok (.iconst 1, 1) := by decide +kernel
theorem dX8_stays_3 : decode cX8_stays 3 = .ok (.istore_n 3, 1) := by decide +kernel
theorem dX8_stays_4 : decode cX8_stays 4 = .ok (.iload_n 3, 1) := by decide +kernel
theorem dX8_stays_5 : decode cX8_stays 5 = .ok (.ifCond .eq 82, 3) := by decide +kernel
theorem dX8_stays_8 : decode cX8_stays 8 = .ok (.iconst 0, 1) := by decide +kernel
theorem dX8_stays_9 : decode cX8_stays 9 = .ok (.istore 4, 2) := by decide +kernel
theorem dX8_stays_11 : decode cX8_stays 11 = .ok (.iload_n 2, 1) := by decide +kernel
theorem dX8_stays_12 : decode cX8_stays 12 = .ok (.aload_n 0, 1) := by decide +kernel
theorem dX8_stays_13 : decode cX8_stays 13 = .ok (.aload_n 0, 1) := by decide +kernel
theorem dX8_stays_14 : decode cX8_stays 14 = .ok (.iload_n 2, 1) := by decide +kernel
theorem dX8_stays_15 : decode cX8_stays 15 = .ok (.invokevirtual 70, 3) := by decide +kernel
theorem dX8_stays_18 : decode cX8_stays 18 = .ok (.invokevirtual 73, 3) := by decide +kernel
theorem dX8_stays_21 : decode cX8_stays 21 = .ok (.iand, 1) := by decide +kernel
theorem dX8_stays_22 : decode cX8_stays 22 = .ok (.istore 5, 2) := by decide +kernel
theorem dX8_stays_24 : decode cX8_stays 24 = .ok (.iload 5, 2) := by decide +kernel
theorem dX8_stays_26 : decode cX8_stays 26 = .ok (.iload 4, 2) := by decide +kernel
theorem dX8_stays_28 : decode cX8_stays 28 = .ok (.if_icmp .eq 23, 3) := by decide +kernel
theorem dX8_stays_31 : decode cX8_stays 31 = .ok (.iload 5, 2) := by decide +kernel
theorem dX8_stays_33 : decode cX8_stays 33 = .ok (.istore 4, 2) := by decide +kernel
theorem dX8_stays_35 : decode cX8_stays 35 = .ok (.iload 4, 2) := by decide +kernel
theorem dX8_stays_37 : decode cX8_stays 37 = .ok (.iload_n 2, 1) := by decide +kernel
theorem dX8_stays_38 : decode cX8_stays 38 = .ok (.aload_n 0, 1) := by decide +kernel
theorem dX8_stays_39 : decode cX8_stays 39 = .ok (.iload 4, 2) := by decide +kernel
theorem dX8_stays_41 : decode cX8_stays 41 = .ok (.invokevirtual 73, 3) := by decide +kernel
theorem dX8_stays_44 : decode cX8_stays 44 = .ok (.iand, 1) := by decide +kernel
theorem dX8_stays_45 : decode cX8_stays 45 = .ok (.ior, 1) := by decide +kernel
theorem dX8_stays_46 : decode cX8_stays 46 = .ok (.istore 5, 2) := by decide +kernel
theorem dX8_stays_48 : decode cX8_stays 48 = .ok (.goto (-24), 3) := by decide +kernel
theorem dX8_stays_51 : decode cX8_stays 51 = .ok (.iload 4, 2) := by decide +kernel
theorem dX8_stays_53 : decode cX8_stays 53 = .ok (.iload_n 2, 1) := by decide +kernel
theorem dX8_stays_54 : decode cX8_stays 54 = .ok (.if_icmp .eq 7, 3) := by decide +kernel
theorem dX8_stays_57 : decode cX8_stays 57 = .ok (.iconst 1, 1) := by decide +kernel
theorem dX8_stays_58 : decode cX8_stays 58 = .ok (.goto 4, 3) := by decide +kernel
theorem dX8_stays_61 : decode cX8_stays 61 = .ok (.iconst 0, 1) := by decide +kernel
theorem dX8_stays_62 : decode cX8_stays 62 = .ok (.istore_n 3, 1) := by decide +kernel
theorem dX8_stays_63 : decode cX8_stays 63 = .ok (.aload_n 0, 1) := by decide +kernel
theorem dX8_stays_64 : decode cX8_stays 64 = .ok (.dup, 1) := by decide +kernel
theorem dX8_stays_65 : decode cX8_stays 65 = .ok (.getfield 76, 3) := by decide +kernel
theorem dX8_stays_68 : decode cX8_stays 68 = .ok (.iload_n 3, 1) := by decide +kernel
theorem dX8_stays_69 : decode cX8_stays 69 = .ok (.ifCond .eq 7, 3) := by decide +kernel
theorem dX8_stays_72 : decode cX8_stays 72 = .ok (.iconst 1, 1) := by decide +kernel
theorem dX8_stays_73 : decode cX8_stays 73 = .ok (.goto 4, 3) := by decide +kernel
theorem dX8_stays_76 : decode cX8_stays 76 = .ok (.iconst 0, 1) := by decide +kernel
theorem dX8_stays_77 : decode cX8_stays 77 = .ok (.iadd, 1) := by decide +kernel
theorem dX8_stays_78 : decode cX8_stays 78 = .ok (.putfield 76, 3) := by decide +kernel
theorem dX8_stays_81 : decode cX8_stays 81 = .ok (.iload 4, 2) := by decide +kernel
theorem dX8_stays_83 : decode cX8_stays 83 = .ok (.istore_n 2, 1) := by decide +kernel
theorem dX8_stays_84 : decode cX8_stays 84 = .ok (.goto (-80), 3) := by decide +kernel
theorem dX8_stays_87 : decode cX8_stays 87 = .ok (.iload_n 2, 1) := by decide +kernel
theorem dX8_stays_88 : decode cX8_stays 88 = .ok (.ireturn, 1) := by decide +kernel
theorem dX8_live_0 : decode cX8_live 0 = .ok (.aload_n 0, 1) := by decide +kernel
theorem dX8_live_1 : decode cX8_live 1 = .ok (.getfield 76, 3) := by decide +kernel
theorem dX8_live_4 : decode cX8_live 4 = .ok (.istore_n 1, 1) := by decide +kernel
theorem dX8_live_5 : decode cX8_live 5 = .ok (.aload_n 0, 1) := by decide +kernel
theorem dX8_live_6 : decode cX8_live 6 = .ok (.aload_n 0, 1) := by decide +kernel
theorem dX8_live_7 : decode cX8_live 7 = .ok (.invokevirtual 79, 3) := by decide +kernel
theorem dX8_live_10 : decode cX8_live 10 = .ok (.invokevirtual 82, 3) := by decide +kernel
theorem dX8_live_13 : decode cX8_live 13 = .ok (.istore_n 2, 1) := by decide +kernel
theorem dX8_live_14 : decode cX8_live 14 = .ok (.aload_n 0, 1) := by decide +kernel
theorem dX8_live_15 : decode cX8_live 15 = .ok (.iload_n 1, 1) := by decide +kernel
theorem dX8_live_16 : decode cX8_live 16 = .ok (.putfield 76, 3) := by decide +kernel
theorem dX8_live_19 : decode cX8_live 19 = .ok (.iload_n 2, 1) := by decide +kernel
theorem dX8_live_20 : decode cX8_live 20 = .ok (.ireturn, 1) := by decide +kernel
theorem dX8_comes_0 : decode cX8_comes 0 = .ok (.aload_n 0, 1) := by decide +kernel
theorem dX8_comes_1 : decode cX8_comes 1 = .ok (.invokevirtual 85, 3) := by decide +kernel
theorem dX8_comes_4 : decode cX8_comes 4 = .ok (.iload_n 2, 1) := by decide +kernel
theorem dX8_comes_5 : decode cX8_comes 5 = .ok (.iand, 1) := by decide +kernel
theorem dX8_comes_6 : decode cX8_comes 6 = .ok (.istore_n 3, 1) := by decide +kernel
theorem dX8_comes_7 : decode cX8_comes 7 = .ok (.iconst 1, 1) := by decide +kernel
theorem dX8_comes_8 : decode cX8_comes 8 = .ok (.istore 4, 2) := by decide +kernel
theorem dX8_comes_10 : decode cX8_comes 10 = .ok (.iload 4, 2) := by decide +kernel
theorem dX8_comes_12 : decode cX8_comes 12 = .ok (.ifCond .eq 52, 3) := by decide +kernel
theorem dX8_comes_15 : decode cX8_comes 15 = .ok (.iload_n 3, 1) := by decide +kernel
theorem dX8_comes_16 : decode cX8_comes 16 = .ok (.iload_n 1, 1) := by decide +kernel
theorem dX8_comes_17 : decode cX8_comes 17 = .ok (.aload_n 0, 1) := by decide +kernel
theorem dX8_comes_18 : decode cX8_comes 18 = .ok (.iload_n 3, 1) := by decide +kernel
theorem dX8_comes_19 : decode cX8_comes 19 = .ok (.invokevirtual 73, 3) := by decide +kernel
theorem dX8_comes_22 : decode cX8_comes 22 = .ok (.iand, 1) := by decide +kernel
theorem dX8_comes_23 : decode cX8_comes 23 = .ok (.ior, 1) := by decide +kernel
theorem dX8_comes_24 : decode cX8_comes 24 = .ok (.istore 5, 2) := by decide +kernel
theorem dX8_comes_26 : decode cX8_comes 26 = .ok (.iload 5, 2) := by decide +kernel
theorem dX8_comes_28 : decode cX8_comes 28 = .ok (.iload_n 3, 1) := by decide +kernel
theorem dX8_comes_29 : decode cX8_comes 29 = .ok (.if_icmp .eq 7, 3) := by decide +kernel
theorem dX8_comes_32 : decode cX8_comes 32 = .ok (.iconst 1, 1) := by decide +kernel
theorem dX8_comes_33 : decode cX8_comes 33 = .ok (.goto 4, 3) := by decide +kernel
theorem dX8_comes_36 : decode cX8_comes 36 = .ok (.iconst 0, 1) := by decide +kernel
theorem dX8_comes_37 : decode cX8_comes 37 = .ok (.istore 4, 2) := by decide +kernel
theorem dX8_comes_39 : decode cX8_comes 39 = .ok (.aload_n 0, 1) := by decide +kernel
theorem dX8_comes_40 : decode cX8_comes 40 = .ok (.dup, 1) := by decide +kernel
theorem dX8_comes_41 : decode cX8_comes 41 = .ok (.getfield 76, 3) := by decide +kernel
theorem dX8_comes_44 : decode cX8_comes 44 = .ok (.iload 4, 2) := by decide +kernel
theorem dX8_comes_46 : decode cX8_comes 46 = .ok (.ifCond .eq 7, 3) := by decide +kernel
theorem dX8_comes_49 : decode cX8_comes 49 = .ok (.iconst 1, 1) := by decide +kernel
theorem dX8_comes_50 : decode cX8_comes 50 = .ok (.goto 4, 3) := by decide +kernel
theorem dX8_comes_53 : decode cX8_comes 53 = .ok (.iconst 0, 1) := by decide +kernel
theorem dX8_comes_54 : decode cX8_comes 54 = .ok (.iadd, 1) := by decide +kernel
theorem dX8_comes_55 : decode cX8_comes 55 = .ok (.putfield 76, 3) := by decide +kernel
theorem dX8_comes_58 : decode cX8_comes 58 = .ok (.iload 5, 2) := by decide +kernel
theorem dX8_comes_60 : decode cX8_comes 60 = .ok (.istore_n 3, 1) := by decide +kernel
theorem dX8_comes_61 : decode cX8_comes 61 = .ok (.goto (-51), 3) := by decide +kernel
theorem dX8_comes_64 : decode cX8_comes 64 = .ok (.iload_n 3, 1) := by decide +kernel
theorem dX8_comes_65 : decode cX8_comes 65 = .ok (.ireturn, 1) := by decide +kernel
theorem dX8_lengthOf_0 : decode cX8_lengthOf 0 = .ok (.aload_n 0, 1) := by decide +kernel
theorem dX8_lengthOf_1 : decode cX8_lengthOf 1 = .ok (.getfield 7, 3) := by decide +kernel
theorem dX8_lengthOf_4 : decode cX8_lengthOf 4 = .ok (.bipush 22, 2) := by decide +kernel
theorem dX8_lengthOf_6 : decode cX8_lengthOf 6 = .ok (.bipush 41, 2) := by decide +kernel
theorem dX8_lengthOf_8 : decode cX8_lengthOf 8 = .ok (.iload_n 1, 1) := by decide +kernel
theorem dX8_lengthOf_9 : decode cX8_lengthOf 9 = .ok (.imul, 1) := by decide +kernel
theorem dX8_lengthOf_10 : decode cX8_lengthOf 10 = .ok (.iadd, 1) := by decide +kernel
theorem dX8_lengthOf_11 : decode cX8_lengthOf 11 = .ok (.iaload, 1) := by decide +kernel
theorem dX8_lengthOf_12 : decode cX8_lengthOf 12 = .ok (.ireturn, 1) := by decide +kernel
theorem dX8_signAt_0 : decode cX8_signAt 0 = .ok (.aload_n 0, 1) := by decide +kernel
theorem dX8_signAt_1 : decode cX8_signAt 1 = .ok (.getfield 7, 3) := by decide +kernel
theorem dX8_signAt_4 : decode cX8_signAt 4 = .ok (.bipush 22, 2) := by decide +kernel
theorem dX8_signAt_6 : decode cX8_signAt 6 = .ok (.bipush 41, 2) := by decide +kernel
theorem dX8_signAt_8 : decode cX8_signAt 8 = .ok (.iload_n 1, 1) := by decide +kernel
theorem dX8_signAt_9 : decode cX8_signAt 9 = .ok (.imul, 1) := by decide +kernel
theorem dX8_signAt_10 : decode cX8_signAt 10 = .ok (.iadd, 1) := by decide +kernel
theorem dX8_signAt_11 : decode cX8_signAt 11 = .ok (.iconst 1, 1) := by decide +kernel
theorem dX8_signAt_12 : decode cX8_signAt 12 = .ok (.iadd, 1) := by decide +kernel
theorem dX8_signAt_13 : decode cX8_signAt 13 = .ok (.iload_n 2, 1) := by decide +kernel
theorem dX8_signAt_14 : decode cX8_signAt 14 = .ok (.iadd, 1) := by decide +kernel
theorem dX8_signAt_15 : decode cX8_signAt 15 = .ok (.iaload, 1) := by decide +kernel
theorem dX8_signAt_16 : decode cX8_signAt 16 = .ok (.ireturn, 1) := by decide +kernel
theorem dX8_isOfWays_0 : decode cX8_isOfWays 0 = .ok (.iload_n 0, 1) := by decide +kernel
theorem dX8_isOfWays_1 : decode cX8_isOfWays 1 = .ok (.bipush 88, 2) := by decide +kernel
theorem dX8_isOfWays_3 : decode cX8_isOfWays 3 = .ok (.if_icmp .eq 21, 3) := by decide +kernel
theorem dX8_isOfWays_6 : decode cX8_isOfWays 6 = .ok (.iload_n 0, 1) := by decide +kernel
theorem dX8_isOfWays_7 : decode cX8_isOfWays 7 = .ok (.bipush 70, 2) := by decide +kernel
theorem dX8_isOfWays_9 : decode cX8_isOfWays 9 = .ok (.if_icmp .eq 15, 3) := by decide +kernel
theorem dX8_isOfWays_12 : decode cX8_isOfWays 12 = .ok (.iload_n 0, 1) := by decide +kernel
theorem dX8_isOfWays_13 : decode cX8_isOfWays 13 = .ok (.bipush 71, 2) := by decide +kernel
theorem dX8_isOfWays_15 : decode cX8_isOfWays 15 = .ok (.if_icmp .eq 9, 3) := by decide +kernel
theorem dX8_isOfWays_18 : decode cX8_isOfWays 18 = .ok (.iload_n 0, 1) := by decide +kernel
theorem dX8_isOfWays_19 : decode cX8_isOfWays 19 = .ok (.bipush 85, 2) := by decide +kernel
theorem dX8_isOfWays_21 : decode cX8_isOfWays 21 = .ok (.if_icmp .ne 7, 3) := by decide +kernel
theorem dX8_isOfWays_24 : decode cX8_isOfWays 24 = .ok (.iconst 1, 1) := by decide +kernel
theorem dX8_isOfWays_25 : decode cX8_isOfWays 25 = .ok (.goto 4, 3) := by decide +kernel
theorem dX8_isOfWays_28 : decode cX8_isOfWays 28 = .ok (.iconst 0, 1) := by decide +kernel
theorem dX8_isOfWays_29 : decode cX8_isOfWays 29 = .ok (.ireturn, 1) := by decide +kernel
theorem dX8_some_0 : decode cX8_some 0 = .ok (.iload_n 1, 1) := by decide +kernel
theorem dX8_some_1 : decode cX8_some 1 = .ok (.lookupswitch 62 #[(70, 46), (71, 56), (88, 35)], 35) := by decide +kernel
theorem dX8_some_36 : decode cX8_some 36 = .ok (.aload_n 0, 1) := by decide +kernel
theorem dX8_some_37 : decode cX8_some 37 = .ok (.aload_n 0, 1) := by decide +kernel
theorem dX8_some_38 : decode cX8_some 38 = .ok (.invokevirtual 85, 3) := by decide +kernel
theorem dX8_some_41 : decode cX8_some 41 = .ok (.iload_n 2, 1) := by decide +kernel
theorem dX8_some_42 : decode cX8_some 42 = .ok (.iand, 1) := by decide +kernel
theorem dX8_some_43 : decode cX8_some 43 = .ok (.invokevirtual 73, 3) := by decide +kernel
theorem dX8_some_46 : decode cX8_some 46 = .ok (.ireturn, 1) := by decide +kernel
theorem dX8_some_47 : decode cX8_some 47 = .ok (.aload_n 0, 1) := by decide +kernel
theorem dX8_some_48 : decode cX8_some 48 = .ok (.aload_n 0, 1) := by decide +kernel
theorem dX8_some_49 : decode cX8_some 49 = .ok (.invokevirtual 79, 3) := by decide +kernel
theorem dX8_some_52 : decode cX8_some 52 = .ok (.iload_n 2, 1) := by decide +kernel
theorem dX8_some_53 : decode cX8_some 53 = .ok (.invokevirtual 88, 3) := by decide +kernel
theorem dX8_some_56 : decode cX8_some 56 = .ok (.ireturn, 1) := by decide +kernel
theorem dX8_some_57 : decode cX8_some 57 = .ok (.aload_n 0, 1) := by decide +kernel
theorem dX8_some_58 : decode cX8_some 58 = .ok (.iload_n 2, 1) := by decide +kernel
theorem dX8_some_59 : decode cX8_some 59 = .ok (.invokevirtual 82, 3) := by decide +kernel
theorem dX8_some_62 : decode cX8_some 62 = .ok (.ireturn, 1) := by decide +kernel
theorem dX8_some_63 : decode cX8_some 63 = .ok (.aload_n 0, 1) := by decide +kernel
theorem dX8_some_64 : decode cX8_some 64 = .ok (.iload_n 2, 1) := by decide +kernel
theorem dX8_some_65 : decode cX8_some 65 = .ok (.iload_n 3, 1) := by decide +kernel
theorem dX8_some_66 : decode cX8_some 66 = .ok (.invokevirtual 88, 3) := by decide +kernel
theorem dX8_some_69 : decode cX8_some 69 = .ok (.ireturn, 1) := by decide +kernel
theorem dX8_every_0 : decode cX8_every 0 = .ok (.iload_n 1, 1) := by decide +kernel
theorem dX8_every_1 : decode cX8_every 1 = .ok (.lookupswitch 99 #[(70, 55), (71, 75), (88, 35)], 35) := by decide +kernel
theorem dX8_every_36 : decode cX8_every 36 = .ok (.aload_n 0, 1) := by decide +kernel
theorem dX8_every_37 : decode cX8_every 37 = .ok (.invokevirtual 79, 3) := by decide +kernel
theorem dX8_every_40 : decode cX8_every 40 = .ok (.aload_n 0, 1) := by decide +kernel
theorem dX8_every_41 : decode cX8_every 41 = .ok (.aload_n 0, 1) := by decide +kernel
theorem dX8_every_42 : decode cX8_every 42 = .ok (.invokevirtual 85, 3) := by decide +kernel
theorem dX8_every_45 : decode cX8_every 45 = .ok (.iload_n 2, 1) := by decide +kernel
theorem dX8_every_46 : decode cX8_every 46 = .ok (.iconst (-1), 1) := by decide +kernel
theorem dX8_every_47 : decode cX8_every 47 = .ok (.ixor, 1) := by decide +kernel
theorem dX8_every_48 : decode cX8_every 48 = .ok (.iand, 1) := by decide +kernel
theorem dX8_every_49 : decode cX8_every 49 = .ok (.invokevirtual 73, 3) := by decide +kernel
theorem dX8_every_52 : decode cX8_every 52 = .ok (.iconst (-1), 1) := by decide +kernel
theorem dX8_every_53 : decode cX8_every 53 = .ok (.ixor, 1) := by decide +kernel
theorem dX8_every_54 : decode cX8_every 54 = .ok (.iand, 1) := by decide +kernel
theorem dX8_every_55 : decode cX8_every 55 = .ok (.ireturn, 1) := by decide +kernel
theorem dX8_every_56 : decode cX8_every 56 = .ok (.aload_n 0, 1) := by decide +kernel
theorem dX8_every_57 : decode cX8_every 57 = .ok (.invokevirtual 79, 3) := by decide +kernel
theorem dX8_every_60 : decode cX8_every 60 = .ok (.aload_n 0, 1) := by decide +kernel
theorem dX8_every_61 : decode cX8_every 61 = .ok (.aload_n 0, 1) := by decide +kernel
theorem dX8_every_62 : decode cX8_every 62 = .ok (.invokevirtual 79, 3) := by decide +kernel
theorem dX8_every_65 : decode cX8_every 65 = .ok (.iload_n 2, 1) := by decide +kernel
theorem dX8_every_66 : decode cX8_every 66 = .ok (.iconst (-1), 1) := by decide +kernel
theorem dX8_every_67 : decode cX8_every 67 = .ok (.ixor, 1) := by decide +kernel
theorem dX8_every_68 : decode cX8_every 68 = .ok (.iand, 1) := by decide +kernel
theorem dX8_every_69 : decode cX8_every 69 = .ok (.invokevirtual 82, 3) := by decide +kernel
theorem dX8_every_72 : decode cX8_every 72 = .ok (.iconst (-1), 1) := by decide +kernel
theorem dX8_every_73 : decode cX8_every 73 = .ok (.ixor, 1) := by decide +kernel
theorem dX8_every_74 : decode cX8_every 74 = .ok (.iand, 1) := by decide +kernel
theorem dX8_every_75 : decode cX8_every 75 = .ok (.ireturn, 1) := by decide +kernel
theorem dX8_every_76 : decode cX8_every 76 = .ok (.aload_n 0, 1) := by decide +kernel
theorem dX8_every_77 : decode cX8_every 77 = .ok (.invokevirtual 79, 3) := by decide +kernel
theorem dX8_every_80 : decode cX8_every 80 = .ok (.aload_n 0, 1) := by decide +kernel
theorem dX8_every_81 : decode cX8_every 81 = .ok (.aload_n 0, 1) := by decide +kernel
theorem dX8_every_82 : decode cX8_every 82 = .ok (.invokevirtual 79, 3) := by decide +kernel
theorem dX8_every_85 : decode cX8_every 85 = .ok (.aload_n 0, 1) := by decide +kernel
theorem dX8_every_86 : decode cX8_every 86 = .ok (.invokevirtual 79, 3) := by decide +kernel
theorem dX8_every_89 : decode cX8_every 89 = .ok (.iload_n 2, 1) := by decide +kernel
theorem dX8_every_90 : decode cX8_every 90 = .ok (.iconst (-1), 1) := by decide +kernel
theorem dX8_every_91 : decode cX8_every 91 = .ok (.ixor, 1) := by decide +kernel
theorem dX8_every_92 : decode cX8_every 92 = .ok (.iand, 1) := by decide +kernel
theorem dX8_every_93 : decode cX8_every 93 = .ok (.invokevirtual 88, 3) := by decide +kernel
theorem dX8_every_96 : decode cX8_every 96 = .ok (.iconst (-1), 1) := by decide +kernel
theorem dX8_every_97 : decode cX8_every 97 = .ok (.ixor, 1) := by decide +kernel
theorem dX8_every_98 : decode cX8_every 98 = .ok (.iand, 1) := by decide +kernel
theorem dX8_every_99 : decode cX8_every 99 = .ok (.ireturn, 1) := by decide +kernel
theorem dX8_every_100 : decode cX8_every 100 = .ok (.aload_n 0, 1) := by decide +kernel
theorem dX8_every_101 : decode cX8_every 101 = .ok (.invokevirtual 79, 3) := by decide +kernel
theorem dX8_every_104 : decode cX8_every 104 = .ok (.iload_n 3, 1) := by decide +kernel
theorem dX8_every_105 : decode cX8_every 105 = .ok (.iconst (-1), 1) := by decide +kernel
theorem dX8_every_106 : decode cX8_every 106 = .ok (.ixor, 1) := by decide +kernel
theorem dX8_every_107 : decode cX8_every 107 = .ok (.iand, 1) := by decide +kernel
theorem dX8_every_108 : decode cX8_every 108 = .ok (.istore 4, 2) := by decide +kernel
theorem dX8_every_110 : decode cX8_every 110 = .ok (.aload_n 0, 1) := by decide +kernel
theorem dX8_every_111 : decode cX8_every 111 = .ok (.invokevirtual 79, 3) := by decide +kernel
theorem dX8_every_114 : decode cX8_every 114 = .ok (.aload_n 0, 1) := by decide +kernel
theorem dX8_every_115 : decode cX8_every 115 = .ok (.iload 4, 2) := by decide +kernel
theorem dX8_every_117 : decode cX8_every 117 = .ok (.iload 4, 2) := by decide +kernel
theorem dX8_every_119 : decode cX8_every 119 = .ok (.iload_n 2, 1) := by decide +kernel
theorem dX8_every_120 : decode cX8_every 120 = .ok (.iconst (-1), 1) := by decide +kernel
theorem dX8_every_121 : decode cX8_every 121 = .ok (.ixor, 1) := by decide +kernel
theorem dX8_every_122 : decode cX8_every 122 = .ok (.iand, 1) := by decide +kernel
theorem dX8_every_123 : decode cX8_every 123 = .ok (.invokevirtual 88, 3) := by decide +kernel
theorem dX8_every_126 : decode cX8_every 126 = .ok (.aload_n 0, 1) := by decide +kernel
theorem dX8_every_127 : decode cX8_every 127 = .ok (.iload 4, 2) := by decide +kernel
theorem dX8_every_129 : decode cX8_every 129 = .ok (.invokevirtual 82, 3) := by decide +kernel
theorem dX8_every_132 : decode cX8_every 132 = .ok (.ior, 1) := by decide +kernel
theorem dX8_every_133 : decode cX8_every 133 = .ok (.iconst (-1), 1) := by decide +kernel
theorem dX8_every_134 : decode cX8_every 134 = .ok (.ixor, 1) := by decide +kernel
theorem dX8_every_135 : decode cX8_every 135 = .ok (.iand, 1) := by decide +kernel
theorem dX8_every_136 : decode cX8_every 136 = .ok (.ireturn, 1) := by decide +kernel
theorem dX8_layWays_0 : decode cX8_layWays 0 = .ok (.aload_n 0, 1) := by decide +kernel
theorem dX8_layWays_1 : decode cX8_layWays 1 = .ok (.iload_n 1, 1) := by decide +kernel
theorem dX8_layWays_2 : decode cX8_layWays 2 = .ok (.iload_n 2, 1) := by decide +kernel
theorem dX8_layWays_3 : decode cX8_layWays 3 = .ok (.iconst 1, 1) := by decide +kernel
theorem dX8_layWays_4 : decode cX8_layWays 4 = .ok (.iadd, 1) := by decide +kernel
theorem dX8_layWays_5 : decode cX8_layWays 5 = .ok (.invokevirtual 91, 3) := by decide +kernel
theorem dX8_layWays_8 : decode cX8_layWays 8 = .ok (.istore_n 3, 1) := by decide +kernel
theorem dX8_layWays_9 : decode cX8_layWays 9 = .ok (.iload_n 2, 1) := by decide +kernel
theorem dX8_layWays_10 : decode cX8_layWays 10 = .ok (.iconst 2, 1) := by decide +kernel
theorem dX8_layWays_11 : decode cX8_layWays 11 = .ok (.iadd, 1) := by decide +kernel
theorem dX8_layWays_12 : decode cX8_layWays 12 = .ok (.istore 4, 2) := by decide +kernel
theorem dX8_layWays_14 : decode cX8_layWays 14 = .ok (.iload 4, 2) := by decide +kernel
theorem dX8_layWays_16 : decode cX8_layWays 16 = .ok (.aload_n 0, 1) := by decide +kernel
theorem dX8_layWays_17 : decode cX8_layWays 17 = .ok (.getfield 25, 3) := by decide +kernel
theorem dX8_layWays_20 : decode cX8_layWays 20 = .ok (.iload 4, 2) := by decide +kernel
theorem dX8_layWays_22 : decode cX8_layWays 22 = .ok (.iaload, 1) := by decide +kernel
theorem dX8_layWays_23 : decode cX8_layWays 23 = .ok (.iadd, 1) := by decide +kernel
theorem dX8_layWays_24 : decode cX8_layWays 24 = .ok (.istore 5, 2) := by decide +kernel
theorem dX8_layWays_26 : decode cX8_layWays 26 = .ok (.iload_n 3, 1) := by decide +kernel
theorem dX8_layWays_27 : decode cX8_layWays 27 = .ok (.bipush 85, 2) := by decide +kernel
theorem dX8_layWays_29 : decode cX8_layWays 29 = .ok (.if_icmp .ne 7, 3) := by decide +kernel
theorem dX8_layWays_32 : decode cX8_layWays 32 = .ok (.iconst 1, 1) := by decide +kernel
theorem dX8_layWays_33 : decode cX8_layWays 33 = .ok (.goto 4, 3) := by decide +kernel
theorem dX8_layWays_36 : decode cX8_layWays 36 = .ok (.iconst 0, 1) := by decide +kernel
theorem dX8_layWays_37 : decode cX8_layWays 37 = .ok (.istore 6, 2) := by decide +kernel
theorem dX8_layWays_39 : decode cX8_layWays 39 = .ok (.iload 6, 2) := by decide +kernel
theorem dX8_layWays_41 : decode cX8_layWays 41 = .ok (.ifCond .eq 13, 3) := by decide +kernel
theorem dX8_layWays_44 : decode cX8_layWays 44 = .ok (.aload_n 0, 1) := by decide +kernel
theorem dX8_layWays_45 : decode cX8_layWays 45 = .ok (.getfield 19, 3) := by decide +kernel
theorem dX8_layWays_48 : decode cX8_layWays 48 = .ok (.iload 5, 2) := by decide +kernel
theorem dX8_layWays_50 : decode cX8_layWays 50 = .ok (.iaload, 1) := by decide +kernel
theorem dX8_layWays_51 : decode cX8_layWays 51 = .ok (.goto 4, 3) := by decide +kernel
theorem dX8_layWays_54 : decode cX8_layWays 54 = .ok (.iconst 0, 1) := by decide +kernel
theorem dX8_layWays_55 : decode cX8_layWays 55 = .ok (.istore 7, 2) := by decide +kernel
theorem dX8_layWays_57 : decode cX8_layWays 57 = .ok (.aload_n 0, 1) := by decide +kernel
theorem dX8_layWays_58 : decode cX8_layWays 58 = .ok (.iconst 0, 1) := by decide +kernel
theorem dX8_layWays_59 : decode cX8_layWays 59 = .ok (.putfield 76, 3) := by decide +kernel
theorem dX8_layWays_62 : decode cX8_layWays 62 = .ok (.aload_n 0, 1) := by decide +kernel
theorem dX8_layWays_63 : decode cX8_layWays 63 = .ok (.getfield 19, 3) := by decide +kernel
theorem dX8_layWays_66 : decode cX8_layWays 66 = .ok (.iload_n 2, 1) := by decide +kernel
theorem dX8_layWays_67 : decode cX8_layWays 67 = .ok (.aload_n 0, 1) := by decide +kernel
theorem dX8_layWays_68 : decode cX8_layWays 68 = .ok (.iload_n 1, 1) := by decide +kernel
theorem dX8_layWays_69 : decode cX8_layWays 69 = .ok (.iload_n 2, 1) := by decide +kernel
theorem dX8_layWays_70 : decode cX8_layWays 70 = .ok (.invokevirtual 91, 3) := by decide +kernel
theorem dX8_layWays_73 : decode cX8_layWays 73 = .ok (.bipush 69, 2) := by decide +kernel
theorem dX8_layWays_75 : decode cX8_layWays 75 = .ok (.if_icmp .ne 20, 3) := by decide +kernel
theorem dX8_layWays_78 : decode cX8_layWays 78 = .ok (.aload_n 0, 1) := by decide +kernel
theorem dX8_layWays_79 : decode cX8_layWays 79 = .ok (.iload_n 3, 1) := by decide +kernel
theorem dX8_layWays_80 : decode cX8_layWays 80 = .ok (.aload_n 0, 1) := by decide +kernel
theorem dX8_layWays_81 : decode cX8_layWays 81 = .ok (.getfield 19, 3) := by decide +kernel
theorem dX8_layWays_84 : decode cX8_layWays 84 = .ok (.iload 4, 2) := by decide +kernel
theorem dX8_layWays_86 : decode cX8_layWays 86 = .ok (.iaload, 1) := by decide +kernel
theorem dX8_layWays_87 : decode cX8_layWays 87 = .ok (.iload 7, 2) := by decide +kernel
theorem dX8_layWays_89 : decode cX8_layWays 89 = .ok (.invokevirtual 94, 3) := by decide +kernel
theorem dX8_layWays_92 : decode cX8_layWays 92 = .ok (.goto 17, 3) := by decide +kernel
theorem dX8_layWays_95 : decode cX8_layWays 95 = .ok (.aload_n 0, 1) := by decide +kernel
theorem dX8_layWays_96 : decode cX8_layWays 96 = .ok (.iload_n 3, 1) := by decide +kernel
theorem dX8_layWays_97 : decode cX8_layWays 97 = .ok (.aload_n 0, 1) := by decide +kernel
theorem dX8_layWays_98 : decode cX8_layWays 98 = .ok (.getfield 19, 3) := by decide +kernel
theorem dX8_layWays_101 : decode cX8_layWays 101 = .ok (.iload 4, 2) := by decide +kernel
theorem dX8_layWays_103 : decode cX8_layWays 103 = .ok (.iaload, 1) := by decide +kernel
theorem dX8_layWays_104 : decode cX8_layWays 104 = .ok (.iload 7, 2) := by decide +kernel
theorem dX8_layWays_106 : decode cX8_layWays 106 = .ok (.invokevirtual 98, 3) := by decide +kernel
theorem dX8_layWays_109 : decode cX8_layWays 109 = .ok (.iastore, 1) := by decide +kernel
theorem dX8_layWays_110 : decode cX8_layWays 110 = .ok (.aload_n 0, 1) := by decide +kernel
theorem dX8_layWays_111 : decode cX8_layWays 111 = .ok (.getfield 22, 3) := by decide +kernel
theorem dX8_layWays_114 : decode cX8_layWays 114 = .ok (.iload_n 2, 1) := by decide +kernel
theorem dX8_layWays_115 : decode cX8_layWays 115 = .ok (.aload_n 0, 1) := by decide +kernel
theorem dX8_layWays_116 : decode cX8_layWays 116 = .ok (.getfield 76, 3) := by decide +kernel
theorem dX8_layWays_119 : decode cX8_layWays 119 = .ok (.iastore, 1) := by decide +kernel
theorem dX8_layWays_120 : decode cX8_layWays 120 = .ok (.aload_n 0, 1) := by decide +kernel
theorem dX8_layWays_121 : decode cX8_layWays 121 = .ok (.getfield 25, 3) := by decide +kernel
theorem dX8_layWays_124 : decode cX8_layWays 124 = .ok (.iload_n 2, 1) := by decide +kernel
theorem dX8_layWays_125 : decode cX8_layWays 125 = .ok (.iconst 2, 1) := by decide +kernel
theorem dX8_layWays_126 : decode cX8_layWays 126 = .ok (.aload_n 0, 1) := by decide +kernel
theorem dX8_layWays_127 : decode cX8_layWays 127 = .ok (.getfield 25, 3) := by decide +kernel
theorem dX8_layWays_130 : decode cX8_layWays 130 = .ok (.iload 4, 2) := by decide +kernel
theorem dX8_layWays_132 : decode cX8_layWays 132 = .ok (.iaload, 1) := by decide +kernel
theorem dX8_layWays_133 : decode cX8_layWays 133 = .ok (.iadd, 1) := by decide +kernel
theorem dX8_layWays_134 : decode cX8_layWays 134 = .ok (.iload 6, 2) := by decide +kernel
theorem dX8_layWays_136 : decode cX8_layWays 136 = .ok (.ifCond .eq 13, 3) := by decide +kernel
theorem dX8_layWays_139 : decode cX8_layWays 139 = .ok (.aload_n 0, 1) := by decide +kernel
theorem dX8_layWays_140 : decode cX8_layWays 140 = .ok (.getfield 25, 3) := by decide +kernel
theorem dX8_layWays_143 : decode cX8_layWays 143 = .ok (.iload 5, 2) := by decide +kernel
theorem dX8_layWays_145 : decode cX8_layWays 145 = .ok (.iaload, 1) := by decide +kernel
theorem dX8_layWays_146 : decode cX8_layWays 146 = .ok (.goto 4, 3) := by decide +kernel
theorem dX8_layWays_149 : decode cX8_layWays 149 = .ok (.iconst 0, 1) := by decide +kernel
theorem dX8_layWays_150 : decode cX8_layWays 150 = .ok (.iadd, 1) := by decide +kernel
theorem dX8_layWays_151 : decode cX8_layWays 151 = .ok (.iastore, 1) := by decide +kernel
theorem dX8_layWays_152 : decode cX8_layWays 152 = .ok (.aload_n 0, 1) := by decide +kernel
theorem dX8_layWays_153 : decode cX8_layWays 153 = .ok (.getfield 28, 3) := by decide +kernel
theorem dX8_layWays_156 : decode cX8_layWays 156 = .ok (.iload_n 2, 1) := by decide +kernel
theorem dX8_layWays_157 : decode cX8_layWays 157 = .ok (.iconst 1, 1) := by decide +kernel
theorem dX8_layWays_158 : decode cX8_layWays 158 = .ok (.iload 6, 2) := by decide +kernel
theorem dX8_layWays_160 : decode cX8_layWays 160 = .ok (.ifCond .eq 30, 3) := by decide +kernel
theorem dX8_layWays_163 : decode cX8_layWays 163 = .ok (.aload_n 0, 1) := by decide +kernel
theorem dX8_layWays_164 : decode cX8_layWays 164 = .ok (.getfield 28, 3) := by decide +kernel
theorem dX8_layWays_167 : decode cX8_layWays 167 = .ok (.iload 5, 2) := by decide +kernel
theorem dX8_layWays_169 : decode cX8_layWays 169 = .ok (.iaload, 1) := by decide +kernel
theorem dX8_layWays_170 : decode cX8_layWays 170 = .ok (.aload_n 0, 1) := by decide +kernel
theorem dX8_layWays_171 : decode cX8_layWays 171 = .ok (.getfield 28, 3) := by decide +kernel
theorem dX8_layWays_174 : decode cX8_layWays 174 = .ok (.iload 4, 2) := by decide +kernel
theorem dX8_layWays_176 : decode cX8_layWays 176 = .ok (.iaload, 1) := by decide +kernel
theorem dX8_layWays_177 : decode cX8_layWays 177 = .ok (.if_icmp .le 13, 3) := by decide +kernel
theorem dX8_layWays_180 : decode cX8_layWays 180 = .ok (.aload_n 0, 1) := by decide +kernel
theorem dX8_layWays_181 : decode cX8_layWays 181 = .ok (.getfield 28, 3) := by decide +kernel
theorem dX8_layWays_184 : decode cX8_layWays 184 = .ok (.iload 5, 2) := by decide +kernel
theorem dX8_layWays_186 : decode cX8_layWays 186 = .ok (.iaload, 1) := by decide +kernel
theorem dX8_layWays_187 : decode cX8_layWays 187 = .ok (.goto 10, 3) := by decide +kernel
theorem dX8_layWays_190 : decode cX8_layWays 190 = .ok (.aload_n 0, 1) := by decide +kernel
theorem dX8_layWays_191 : decode cX8_layWays 191 = .ok (.getfield 28, 3) := by decide +kernel
theorem dX8_layWays_194 : decode cX8_layWays 194 = .ok (.iload 4, 2) := by decide +kernel
theorem dX8_layWays_196 : decode cX8_layWays 196 = .ok (.iaload, 1) := by decide +kernel
theorem dX8_layWays_197 : decode cX8_layWays 197 = .ok (.iadd, 1) := by decide +kernel
theorem dX8_layWays_198 : decode cX8_layWays 198 = .ok (.iastore, 1) := by decide +kernel
theorem dX8_layWays_199 : decode cX8_layWays 199 = .ok (.return_, 1) := by decide +kernel
theorem dX8_layBoth_0 : decode cX8_layBoth 0 = .ok (.iload_n 2, 1) := by decide +kernel
theorem dX8_layBoth_1 : decode cX8_layBoth 1 = .ok (.iconst 1, 1) := by decide +kernel
theorem dX8_layBoth_2 : decode cX8_layBoth 2 = .ok (.iadd, 1) := by decide +kernel
theorem dX8_layBoth_3 : decode cX8_layBoth 3 = .ok (.istore_n 3, 1) := by decide +kernel
theorem dX8_layBoth_4 : decode cX8_layBoth 4 = .ok (.iload_n 3, 1) := by decide +kernel
theorem dX8_layBoth_5 : decode cX8_layBoth 5 = .ok (.aload_n 0, 1) := by decide +kernel
theorem dX8_layBoth_6 : decode cX8_layBoth 6 = .ok (.getfield 25, 3) := by decide +kernel
theorem dX8_layBoth_9 : decode cX8_layBoth 9 = .ok (.iload_n 3, 1) := by decide +kernel
theorem dX8_layBoth_10 : decode cX8_layBoth 10 = .ok (.iaload, 1) := by decide +kernel
theorem dX8_layBoth_11 : decode cX8_layBoth 11 = .ok (.iadd, 1) := by decide +kernel
theorem dX8_layBoth_12 : decode cX8_layBoth 12 = .ok (.istore 4, 2) := by decide +kernel
theorem dX8_layBoth_14 : decode cX8_layBoth 14 = .ok (.aload_n 0, 1) := by decide +kernel
theorem dX8_layBoth_15 : decode cX8_layBoth 15 = .ok (.getfield 19, 3) := by decide +kernel
theorem dX8_layBoth_18 : decode cX8_layBoth 18 = .ok (.iload_n 2, 1) := by decide +kernel
theorem dX8_layBoth_19 : decode cX8_layBoth 19 = .ok (.aload_n 0, 1) := by decide +kernel
theorem dX8_layBoth_20 : decode cX8_layBoth 20 = .ok (.iload_n 1, 1) := by decide +kernel
theorem dX8_layBoth_21 : decode cX8_layBoth 21 = .ok (.iload_n 2, 1) := by decide +kernel
theorem dX8_layBoth_22 : decode cX8_layBoth 22 = .ok (.invokevirtual 91, 3) := by decide +kernel
theorem dX8_layBoth_25 : decode cX8_layBoth 25 = .ok (.bipush 38, 2) := by decide +kernel
theorem dX8_layBoth_27 : decode cX8_layBoth 27 = .ok (.if_icmp .ne 20, 3) := by decide +kernel
theorem dX8_layBoth_30 : decode cX8_layBoth 30 = .ok (.aload_n 0, 1) := by decide +kernel
theorem dX8_layBoth_31 : decode cX8_layBoth 31 = .ok (.getfield 19, 3) := by decide +kernel
theorem dX8_layBoth_34 : decode cX8_layBoth 34 = .ok (.iload_n 3, 1) := by decide +kernel
theorem dX8_layBoth_35 : decode cX8_layBoth 35 = .ok (.iaload, 1) := by decide +kernel
theorem dX8_layBoth_36 : decode cX8_layBoth 36 = .ok (.aload_n 0, 1) := by decide +kernel
theorem dX8_layBoth_37 : decode cX8_layBoth 37 = .ok (.getfield 19, 3) := by decide +kernel
theorem dX8_layBoth_40 : decode cX8_layBoth 40 = .ok (.iload 4, 2) := by decide +kernel
theorem dX8_layBoth_42 : decode cX8_layBoth 42 = .ok (.iaload, 1) := by decide +kernel
theorem dX8_layBoth_43 : decode cX8_layBoth 43 = .ok (.iand, 1) := by decide +kernel
theorem dX8_layBoth_44 : decode cX8_layBoth 44 = .ok (.goto 17, 3) := by decide +kernel
theorem dX8_layBoth_47 : decode cX8_layBoth 47 = .ok (.aload_n 0, 1) := by decide +kernel
theorem dX8_layBoth_48 : decode cX8_layBoth 48 = .ok (.getfield 19, 3) := by decide +kernel
theorem dX8_layBoth_51 : decode cX8_layBoth 51 = .ok (.iload_n 3, 1) := by decide +kernel
theorem dX8_layBoth_52 : decode cX8_layBoth 52 = .ok (.iaload, 1) := by decide +kernel
theorem dX8_layBoth_53 : decode cX8_layBoth 53 = .ok (.aload_n 0, 1) := by decide +kernel
theorem dX8_layBoth_54 : decode cX8_layBoth 54 = .ok (.getfield 19, 3) := by decide +kernel
theorem dX8_layBoth_57 : decode cX8_layBoth 57 = .ok (.iload 4, 2) := by decide +kernel
theorem dX8_layBoth_59 : decode cX8_layBoth 59 = .ok (.iaload, 1) := by decide +kernel
theorem dX8_layBoth_60 : decode cX8_layBoth 60 = .ok (.ior, 1) := by decide +kernel
theorem dX8_layBoth_61 : decode cX8_layBoth 61 = .ok (.iastore, 1) := by decide +kernel
theorem dX8_layBoth_62 : decode cX8_layBoth 62 = .ok (.aload_n 0, 1) := by decide +kernel
theorem dX8_layBoth_63 : decode cX8_layBoth 63 = .ok (.getfield 25, 3) := by decide +kernel
theorem dX8_layBoth_66 : decode cX8_layBoth 66 = .ok (.iload_n 2, 1) := by decide +kernel
theorem dX8_layBoth_67 : decode cX8_layBoth 67 = .ok (.iconst 1, 1) := by decide +kernel
theorem dX8_layBoth_68 : decode cX8_layBoth 68 = .ok (.aload_n 0, 1) := by decide +kernel
theorem dX8_layBoth_69 : decode cX8_layBoth 69 = .ok (.getfield 25, 3) := by decide +kernel
theorem dX8_layBoth_72 : decode cX8_layBoth 72 = .ok (.iload_n 3, 1) := by decide +kernel
theorem dX8_layBoth_73 : decode cX8_layBoth 73 = .ok (.iaload, 1) := by decide +kernel
theorem dX8_layBoth_74 : decode cX8_layBoth 74 = .ok (.iadd, 1) := by decide +kernel
theorem dX8_layBoth_75 : decode cX8_layBoth 75 = .ok (.aload_n 0, 1) := by decide +kernel
theorem dX8_layBoth_76 : decode cX8_layBoth 76 = .ok (.getfield 25, 3) := by decide +kernel
theorem dX8_layBoth_79 : decode cX8_layBoth 79 = .ok (.iload 4, 2) := by decide +kernel
theorem dX8_layBoth_81 : decode cX8_layBoth 81 = .ok (.iaload, 1) := by decide +kernel
theorem dX8_layBoth_82 : decode cX8_layBoth 82 = .ok (.iadd, 1) := by decide +kernel
theorem dX8_layBoth_83 : decode cX8_layBoth 83 = .ok (.iastore, 1) := by decide +kernel
theorem dX8_layBoth_84 : decode cX8_layBoth 84 = .ok (.aload_n 0, 1) := by decide +kernel
theorem dX8_layBoth_85 : decode cX8_layBoth 85 = .ok (.getfield 28, 3) := by decide +kernel
theorem dX8_layBoth_88 : decode cX8_layBoth 88 = .ok (.iload_n 2, 1) := by decide +kernel
theorem dX8_layBoth_89 : decode cX8_layBoth 89 = .ok (.iconst 1, 1) := by decide +kernel
theorem dX8_layBoth_90 : decode cX8_layBoth 90 = .ok (.aload_n 0, 1) := by decide +kernel
theorem dX8_layBoth_91 : decode cX8_layBoth 91 = .ok (.getfield 28, 3) := by decide +kernel
theorem dX8_layBoth_94 : decode cX8_layBoth 94 = .ok (.iload 4, 2) := by decide +kernel
theorem dX8_layBoth_96 : decode cX8_layBoth 96 = .ok (.iaload, 1) := by decide +kernel
theorem dX8_layBoth_97 : decode cX8_layBoth 97 = .ok (.aload_n 0, 1) := by decide +kernel
theorem dX8_layBoth_98 : decode cX8_layBoth 98 = .ok (.getfield 28, 3) := by decide +kernel
theorem dX8_layBoth_101 : decode cX8_layBoth 101 = .ok (.iload_n 3, 1) := by decide +kernel
theorem dX8_layBoth_102 : decode cX8_layBoth 102 = .ok (.iaload, 1) := by decide +kernel
theorem dX8_layBoth_103 : decode cX8_layBoth 103 = .ok (.if_icmp .le 13, 3) := by decide +kernel
theorem dX8_layBoth_106 : decode cX8_layBoth 106 = .ok (.aload_n 0, 1) := by decide +kernel
theorem dX8_layBoth_107 : decode cX8_layBoth 107 = .ok (.getfield 28, 3) := by decide +kernel
theorem dX8_layBoth_110 : decode cX8_layBoth 110 = .ok (.iload 4, 2) := by decide +kernel
theorem dX8_layBoth_112 : decode cX8_layBoth 112 = .ok (.iaload, 1) := by decide +kernel
theorem dX8_layBoth_113 : decode cX8_layBoth 113 = .ok (.goto 9, 3) := by decide +kernel
theorem dX8_layBoth_116 : decode cX8_layBoth 116 = .ok (.aload_n 0, 1) := by decide +kernel
theorem dX8_layBoth_117 : decode cX8_layBoth 117 = .ok (.getfield 28, 3) := by decide +kernel
theorem dX8_layBoth_120 : decode cX8_layBoth 120 = .ok (.iload_n 3, 1) := by decide +kernel
theorem dX8_layBoth_121 : decode cX8_layBoth 121 = .ok (.iaload, 1) := by decide +kernel
theorem dX8_layBoth_122 : decode cX8_layBoth 122 = .ok (.iadd, 1) := by decide +kernel
theorem dX8_layBoth_123 : decode cX8_layBoth 123 = .ok (.iastore, 1) := by decide +kernel
theorem dX8_layBoth_124 : decode cX8_layBoth 124 = .ok (.return_, 1) := by decide +kernel
theorem dX8_lay_0 : decode cX8_lay 0 = .ok (.aload_n 0, 1) := by decide +kernel
theorem dX8_lay_1 : decode cX8_lay 1 = .ok (.iload_n 1, 1) := by decide +kernel
theorem dX8_lay_2 : decode cX8_lay 2 = .ok (.invokevirtual 101, 3) := by decide +kernel
theorem dX8_lay_5 : decode cX8_lay 5 = .ok (.iconst 1, 1) := by decide +kernel
theorem dX8_lay_6 : decode cX8_lay 6 = .ok (.isub, 1) := by decide +kernel
theorem dX8_lay_7 : decode cX8_lay 7 = .ok (.istore_n 2, 1) := by decide +kernel
theorem dX8_lay_8 : decode cX8_lay 8 = .ok (.iload_n 2, 1) := by decide +kernel
theorem dX8_lay_9 : decode cX8_lay 9 = .ok (.ifCond .lt 199, 3) := by decide +kernel
theorem dX8_lay_12 : decode cX8_lay 12 = .ok (.aload_n 0, 1) := by decide +kernel
theorem dX8_lay_13 : decode cX8_lay 13 = .ok (.iload_n 1, 1) := by decide +kernel
theorem dX8_lay_14 : decode cX8_lay 14 = .ok (.iload_n 2, 1) := by decide +kernel
theorem dX8_lay_15 : decode cX8_lay 15 = .ok (.invokevirtual 91, 3) := by decide +kernel
theorem dX8_lay_18 : decode cX8_lay 18 = .ok (.istore_n 3, 1) := by decide +kernel
theorem dX8_lay_19 : decode cX8_lay 19 = .ok (.aload_n 0, 1) := by decide +kernel
theorem dX8_lay_20 : decode cX8_lay 20 = .ok (.getfield 22, 3) := by decide +kernel
theorem dX8_lay_23 : decode cX8_lay 23 = .ok (.iload_n 2, 1) := by decide +kernel
theorem dX8_lay_24 : decode cX8_lay 24 = .ok (.iconst 0, 1) := by decide +kernel
theorem dX8_lay_25 : decode cX8_lay 25 = .ok (.iastore, 1) := by decide +kernel
theorem dX8_lay_26 : decode cX8_lay 26 = .ok (.iload_n 3, 1) := by decide +kernel
theorem dX8_lay_27 : decode cX8_lay 27 = .ok (.invokestatic 104, 3) := by decide +kernel
theorem dX8_lay_30 : decode cX8_lay 30 = .ok (.ifCond .eq 27, 3) := by decide +kernel
theorem dX8_lay_33 : decode cX8_lay 33 = .ok (.aload_n 0, 1) := by decide +kernel
theorem dX8_lay_34 : decode cX8_lay 34 = .ok (.getfield 19, 3) := by decide +kernel
theorem dX8_lay_37 : decode cX8_lay 37 = .ok (.iload_n 2, 1) := by decide +kernel
theorem dX8_lay_38 : decode cX8_lay 38 = .ok (.iconst (-1), 1) := by decide +kernel
theorem dX8_lay_39 : decode cX8_lay 39 = .ok (.iastore, 1) := by decide +kernel
theorem dX8_lay_40 : decode cX8_lay 40 = .ok (.aload_n 0, 1) := by decide +kernel
theorem dX8_lay_41 : decode cX8_lay 41 = .ok (.getfield 22, 3) := by decide +kernel
theorem dX8_lay_44 : decode cX8_lay 44 = .ok (.iload_n 2, 1) := by decide +kernel
theorem dX8_lay_45 : decode cX8_lay 45 = .ok (.iconst (-1), 1) := by decide +kernel
theorem dX8_lay_46 : decode cX8_lay 46 = .ok (.iastore, 1) := by decide +kernel
theorem dX8_lay_47 : decode cX8_lay 47 = .ok (.aload_n 0, 1) := by decide +kernel
theorem dX8_lay_48 : decode cX8_lay 48 = .ok (.getfield 25, 3) := by decide +kernel
theorem dX8_lay_51 : decode cX8_lay 51 = .ok (.iload_n 2, 1) := by decide +kernel
theorem dX8_lay_52 : decode cX8_lay 52 = .ok (.iconst (-1), 1) := by decide +kernel
theorem dX8_lay_53 : decode cX8_lay 53 = .ok (.iastore, 1) := by decide +kernel
theorem dX8_lay_54 : decode cX8_lay 54 = .ok (.goto 148, 3) := by decide +kernel
theorem dX8_lay_57 : decode cX8_lay 57 = .ok (.iload_n 3, 1) := by decide +kernel
theorem dX8_lay_58 : decode cX8_lay 58 = .ok (.bipush 69, 2) := by decide +kernel
theorem dX8_lay_60 : decode cX8_lay 60 = .ok (.if_icmp .eq 9, 3) := by decide +kernel
theorem dX8_lay_63 : decode cX8_lay 63 = .ok (.iload_n 3, 1) := by decide +kernel
theorem dX8_lay_64 : decode cX8_lay 64 = .ok (.bipush 65, 2) := by decide +kernel
theorem dX8_lay_66 : decode cX8_lay 66 = .ok (.if_icmp .ne 12, 3) := by decide +kernel
theorem dX8_lay_69 : decode cX8_lay 69 = .ok (.aload_n 0, 1) := by decide +kernel
theorem dX8_lay_70 : decode cX8_lay 70 = .ok (.iload_n 1, 1) := by decide +kernel
theorem dX8_lay_71 : decode cX8_lay 71 = .ok (.iload_n 2, 1) := by decide +kernel
theorem dX8_lay_72 : decode cX8_lay 72 = .ok (.invokevirtual 107, 3) := by decide +kernel
theorem dX8_lay_75 : decode cX8_lay 75 = .ok (.goto 127, 3) := by decide +kernel
theorem dX8_lay_78 : decode cX8_lay 78 = .ok (.iload_n 3, 1) := by decide +kernel
theorem dX8_lay_79 : decode cX8_lay 79 = .ok (.bipush 38, 2) := by decide +kernel
theorem dX8_lay_81 : decode cX8_lay 81 = .ok (.if_icmp .eq 9, 3) := by decide +kernel
theorem dX8_lay_84 : decode cX8_lay 84 = .ok (.iload_n 3, 1) := by decide +kernel
theorem dX8_lay_85 : decode cX8_lay 85 = .ok (.bipush 124, 2) := by decide +kernel
theorem dX8_lay_87 : decode cX8_lay 87 = .ok (.if_icmp .ne 12, 3) := by decide +kernel
theorem dX8_lay_90 : decode cX8_lay 90 = .ok (.aload_n 0, 1) := by decide +kernel
theorem dX8_lay_91 : decode cX8_lay 91 = .ok (.iload_n 1, 1) := by decide +kernel
theorem dX8_lay_92 : decode cX8_lay 92 = .ok (.iload_n 2, 1) := by decide +kernel
theorem dX8_lay_93 : decode cX8_lay 93 = .ok (.invokevirtual 111, 3) := by decide +kernel
theorem dX8_lay_96 : decode cX8_lay 96 = .ok (.goto 106, 3) := by decide +kernel
theorem dX8_lay_99 : decode cX8_lay 99 = .ok (.iload_n 3, 1) := by decide +kernel
theorem dX8_lay_100 : decode cX8_lay 100 = .ok (.bipush 33, 2) := by decide +kernel
theorem dX8_lay_102 : decode cX8_lay 102 = .ok (.if_icmp .ne 59, 3) := by decide +kernel
theorem dX8_lay_105 : decode cX8_lay 105 = .ok (.aload_n 0, 1) := by decide +kernel
theorem dX8_lay_106 : decode cX8_lay 106 = .ok (.getfield 19, 3) := by decide +kernel
theorem dX8_lay_109 : decode cX8_lay 109 = .ok (.iload_n 2, 1) := by decide +kernel
theorem dX8_lay_110 : decode cX8_lay 110 = .ok (.aload_n 0, 1) := by decide +kernel
theorem dX8_lay_111 : decode cX8_lay 111 = .ok (.invokevirtual 79, 3) := by decide +kernel
theorem dX8_lay_114 : decode cX8_lay 114 = .ok (.aload_n 0, 1) := by decide +kernel
theorem dX8_lay_115 : decode cX8_lay 115 = .ok (.getfield 19, 3) := by decide +kernel
theorem dX8_lay_118 : decode cX8_lay 118 = .ok (.iload_n 2, 1) := by decide +kernel
theorem dX8_lay_119 : decode cX8_lay 119 = .ok (.iconst 1, 1) := by decide +kernel
theorem dX8_lay_120 : decode cX8_lay 120 = .ok (.iadd, 1) := by decide +kernel
theorem dX8_lay_121 : decode cX8_lay 121 = .ok (.iaload, 1) := by decide +kernel
theorem dX8_lay_122 : decode cX8_lay 122 = .ok (.iconst (-1), 1) := by decide +kernel
theorem dX8_lay_123 : decode cX8_lay 123 = .ok (.ixor, 1) := by decide +kernel
theorem dX8_lay_124 : decode cX8_lay 124 = .ok (.iand, 1) := by decide +kernel
theorem dX8_lay_125 : decode cX8_lay 125 = .ok (.iastore, 1) := by decide +kernel
theorem dX8_lay_126 : decode cX8_lay 126 = .ok (.aload_n 0, 1) := by decide +kernel
theorem dX8_lay_127 : decode cX8_lay 127 = .ok (.getfield 25, 3) := by decide +kernel
theorem dX8_lay_130 : decode cX8_lay 130 = .ok (.iload_n 2, 1) := by decide +kernel
theorem dX8_lay_131 : decode cX8_lay 131 = .ok (.iconst 1, 1) := by decide +kernel
theorem dX8_lay_132 : decode cX8_lay 132 = .ok (.aload_n 0, 1) := by decide +kernel
theorem dX8_lay_133 : decode cX8_lay 133 = .ok (.getfield 25, 3) := by decide +kernel
theorem dX8_lay_136 : decode cX8_lay 136 = .ok (.iload_n 2, 1) := by decide +kernel
theorem dX8_lay_137 : decode cX8_lay 137 = .ok (.iconst 1, 1) := by decide +kernel
theorem dX8_lay_138 : decode cX8_lay 138 = .ok (.iadd, 1) := by decide +kernel
theorem dX8_lay_139 : decode cX8_lay 139 = .ok (.iaload, 1) := by decide +kernel
theorem dX8_lay_140 : decode cX8_lay 140 = .ok (.iadd, 1) := by decide +kernel
theorem dX8_lay_141 : decode cX8_lay 141 = .ok (.iastore, 1) := by decide +kernel
theorem dX8_lay_142 : decode cX8_lay 142 = .ok (.aload_n 0, 1) := by decide +kernel
theorem dX8_lay_143 : decode cX8_lay 143 = .ok (.getfield 28, 3) := by decide +kernel
theorem dX8_lay_146 : decode cX8_lay 146 = .ok (.iload_n 2, 1) := by decide +kernel
theorem dX8_lay_147 : decode cX8_lay 147 = .ok (.iconst 1, 1) := by decide +kernel
theorem dX8_lay_148 : decode cX8_lay 148 = .ok (.aload_n 0, 1) := by decide +kernel
theorem dX8_lay_149 : decode cX8_lay 149 = .ok (.getfield 28, 3) := by decide +kernel
theorem dX8_lay_152 : decode cX8_lay 152 = .ok (.iload_n 2, 1) := by decide +kernel
theorem dX8_lay_153 : decode cX8_lay 153 = .ok (.iconst 1, 1) := by decide +kernel
theorem dX8_lay_154 : decode cX8_lay 154 = .ok (.iadd, 1) := by decide +kernel
theorem dX8_lay_155 : decode cX8_lay 155 = .ok (.iaload, 1) := by decide +kernel
theorem dX8_lay_156 : decode cX8_lay 156 = .ok (.iadd, 1) := by decide +kernel
theorem dX8_lay_157 : decode cX8_lay 157 = .ok (.iastore, 1) := by decide +kernel
theorem dX8_lay_158 : decode cX8_lay 158 = .ok (.goto 44, 3) := by decide +kernel
theorem dX8_lay_161 : decode cX8_lay 161 = .ok (.aload_n 0, 1) := by decide +kernel
theorem dX8_lay_162 : decode cX8_lay 162 = .ok (.getfield 19, 3) := by decide +kernel
theorem dX8_lay_165 : decode cX8_lay 165 = .ok (.iload_n 2, 1) := by decide +kernel
theorem dX8_lay_166 : decode cX8_lay 166 = .ok (.iload_n 3, 1) := by decide +kernel
theorem dX8_lay_167 : decode cX8_lay 167 = .ok (.bipush 116, 2) := by decide +kernel
theorem dX8_lay_169 : decode cX8_lay 169 = .ok (.if_icmp .ne 10, 3) := by decide +kernel
theorem dX8_lay_172 : decode cX8_lay 172 = .ok (.aload_n 0, 1) := by decide +kernel
theorem dX8_lay_173 : decode cX8_lay 173 = .ok (.invokevirtual 79, 3) := by decide +kernel
theorem dX8_lay_176 : decode cX8_lay 176 = .ok (.goto 11, 3) := by decide +kernel
theorem dX8_lay_179 : decode cX8_lay 179 = .ok (.aload_n 0, 1) := by decide +kernel
theorem dX8_lay_180 : decode cX8_lay 180 = .ok (.iload_n 3, 1) := by decide +kernel
theorem dX8_lay_181 : decode cX8_lay 181 = .ok (.bipush 97, 2) := by decide +kernel
theorem dX8_lay_183 : decode cX8_lay 183 = .ok (.isub, 1) := by decide +kernel
theorem dX8_lay_184 : decode cX8_lay 184 = .ok (.invokevirtual 67, 3) := by decide +kernel
theorem dX8_lay_187 : decode cX8_lay 187 = .ok (.iastore, 1) := by decide +kernel
theorem dX8_lay_188 : decode cX8_lay 188 = .ok (.aload_n 0, 1) := by decide +kernel
theorem dX8_lay_189 : decode cX8_lay 189 = .ok (.getfield 25, 3) := by decide +kernel
theorem dX8_lay_192 : decode cX8_lay 192 = .ok (.iload_n 2, 1) := by decide +kernel
theorem dX8_lay_193 : decode cX8_lay 193 = .ok (.iconst 1, 1) := by decide +kernel
theorem dX8_lay_194 : decode cX8_lay 194 = .ok (.iastore, 1) := by decide +kernel
theorem dX8_lay_195 : decode cX8_lay 195 = .ok (.aload_n 0, 1) := by decide +kernel
theorem dX8_lay_196 : decode cX8_lay 196 = .ok (.getfield 28, 3) := by decide +kernel
theorem dX8_lay_199 : decode cX8_lay 199 = .ok (.iload_n 2, 1) := by decide +kernel
theorem dX8_lay_200 : decode cX8_lay 200 = .ok (.iconst 1, 1) := by decide +kernel
theorem dX8_lay_201 : decode cX8_lay 201 = .ok (.iastore, 1) := by decide +kernel
theorem dX8_lay_202 : decode cX8_lay 202 = .ok (.iinc 2 (-1), 3) := by decide +kernel
theorem dX8_lay_205 : decode cX8_lay 205 = .ok (.goto (-197), 3) := by decide +kernel
theorem dX8_lay_208 : decode cX8_lay 208 = .ok (.return_, 1) := by decide +kernel
theorem dX8_holds_0 : decode cX8_holds 0 = .ok (.aload_n 0, 1) := by decide +kernel
theorem dX8_holds_1 : decode cX8_holds 1 = .ok (.iload_n 1, 1) := by decide +kernel
theorem dX8_holds_2 : decode cX8_holds 2 = .ok (.invokevirtual 114, 3) := by decide +kernel
theorem dX8_holds_5 : decode cX8_holds 5 = .ok (.aload_n 0, 1) := by decide +kernel
theorem dX8_holds_6 : decode cX8_holds 6 = .ok (.getfield 19, 3) := by decide +kernel
theorem dX8_holds_9 : decode cX8_holds 9 = .ok (.iconst 0, 1) := by decide +kernel
theorem dX8_holds_10 : decode cX8_holds 10 = .ok (.iaload, 1) := by decide +kernel
theorem dX8_holds_11 : decode cX8_holds 11 = .ok (.ireturn, 1) := by decide +kernel
theorem dX8_append_0 : decode cX8_append 0 = .ok (.aload_n 0, 1) := by decide +kernel
theorem dX8_append_1 : decode cX8_append 1 = .ok (.iload_n 1, 1) := by decide +kernel
theorem dX8_append_2 : decode cX8_append 2 = .ok (.bipush 33, 2) := by decide +kernel
theorem dX8_append_4 : decode cX8_append 4 = .ok (.bipush 126, 2) := by decide +kernel
theorem dX8_append_6 : decode cX8_append 6 = .ok (.invokestatic 41, 3) := by decide +kernel
theorem dX8_append_9 : decode cX8_append 9 = .ok (.ifCond .ne 7, 3) := by decide +kernel
theorem dX8_append_12 : decode cX8_append 12 = .ok (.iconst 1, 1) := by decide +kernel
theorem dX8_append_13 : decode cX8_append 13 = .ok (.goto 17, 3) := by decide +kernel
theorem dX8_append_16 : decode cX8_append 16 = .ok (.aload_n 0, 1) := by decide +kernel
theorem dX8_append_17 : decode cX8_append 17 = .ok (.getfield 118, 3) := by decide +kernel
theorem dX8_append_20 : decode cX8_append 20 = .ok (.bipush 60, 2) := by decide +kernel
theorem dX8_append_22 : decode cX8_append 22 = .ok (.if_icmp .ne 7, 3) := by decide +kernel
theorem dX8_append_25 : decode cX8_append 25 = .ok (.iconst 2, 1) := by decide +kernel
theorem dX8_append_26 : decode cX8_append 26 = .ok (.goto 4, 3) := by decide +kernel
theorem dX8_append_29 : decode cX8_append 29 = .ok (.iconst 0, 1) := by decide +kernel
theorem dX8_append_30 : decode cX8_append 30 = .ok (.putfield 37, 3) := by decide +kernel
theorem dX8_append_33 : decode cX8_append 33 = .ok (.aload_n 0, 1) := by decide +kernel
theorem dX8_append_34 : decode cX8_append 34 = .ok (.getfield 37, 3) := by decide +kernel
theorem dX8_append_37 : decode cX8_append 37 = .ok (.ifCond .le 5, 3) := by decide +kernel
theorem dX8_append_40 : decode cX8_append 40 = .ok (.iconst 0, 1) := by decide +kernel
theorem dX8_append_41 : decode cX8_append 41 = .ok (.ireturn, 1) := by decide +kernel
theorem dX8_append_42 : decode cX8_append 42 = .ok (.aload_n 0, 1) := by decide +kernel
theorem dX8_append_43 : decode cX8_append 43 = .ok (.getfield 16, 3) := by decide +kernel
theorem dX8_append_46 : decode cX8_append 46 = .ok (.aload_n 0, 1) := by decide +kernel
theorem dX8_append_47 : decode cX8_append 47 = .ok (.getfield 118, 3) := by decide +kernel
theorem dX8_append_50 : decode cX8_append 50 = .ok (.iload_n 1, 1) := by decide +kernel
theorem dX8_append_51 : decode cX8_append 51 = .ok (.iastore, 1) := by decide +kernel
theorem dX8_append_52 : decode cX8_append 52 = .ok (.aload_n 0, 1) := by decide +kernel
theorem dX8_append_53 : decode cX8_append 53 = .ok (.dup, 1) := by decide +kernel
theorem dX8_append_54 : decode cX8_append 54 = .ok (.getfield 118, 3) := by decide +kernel
theorem dX8_append_57 : decode cX8_append 57 = .ok (.iconst 1, 1) := by decide +kernel
theorem dX8_append_58 : decode cX8_append 58 = .ok (.iadd, 1) := by decide +kernel
theorem dX8_append_59 : decode cX8_append 59 = .ok (.putfield 118, 3) := by decide +kernel
theorem dX8_append_62 : decode cX8_append 62 = .ok (.aload_n 0, 1) := by decide +kernel
theorem dX8_append_63 : decode cX8_append 63 = .ok (.getfield 118, 3) := by decide +kernel
theorem dX8_append_66 : decode cX8_append 66 = .ok (.ireturn, 1) := by decide +kernel
theorem dX8_clearBuffer_0 : decode cX8_clearBuffer 0 = .ok (.aload_n 0, 1) := by decide +kernel
theorem dX8_clearBuffer_1 : decode cX8_clearBuffer 1 = .ok (.iconst 0, 1) := by decide +kernel
theorem dX8_clearBuffer_2 : decode cX8_clearBuffer 2 = .ok (.putfield 37, 3) := by decide +kernel
theorem dX8_clearBuffer_5 : decode cX8_clearBuffer 5 = .ok (.aload_n 0, 1) := by decide +kernel
theorem dX8_clearBuffer_6 : decode cX8_clearBuffer 6 = .ok (.getfield 118, 3) := by decide +kernel
theorem dX8_clearBuffer_9 : decode cX8_clearBuffer 9 = .ok (.istore_n 1, 1) := by decide +kernel
theorem dX8_clearBuffer_10 : decode cX8_clearBuffer 10 = .ok (.aload_n 0, 1) := by decide +kernel
theorem dX8_clearBuffer_11 : decode cX8_clearBuffer 11 = .ok (.iconst 0, 1) := by decide +kernel
theorem dX8_clearBuffer_12 : decode cX8_clearBuffer 12 = .ok (.putfield 118, 3) := by decide +kernel
theorem dX8_clearBuffer_15 : decode cX8_clearBuffer 15 = .ok (.iload_n 1, 1) := by decide +kernel
theorem dX8_clearBuffer_16 : decode cX8_clearBuffer 16 = .ok (.ireturn, 1) := by decide +kernel
theorem dX8_stands_0 : decode cX8_stands 0 = .ok (.aload_n 0, 1) := by decide +kernel
theorem dX8_stands_1 : decode cX8_stands 1 = .ok (.getfield 121, 3) := by decide +kernel
theorem dX8_stands_4 : decode cX8_stands 4 = .ok (.ifCond .eq 33, 3) := by decide +kernel
theorem dX8_stands_7 : decode cX8_stands 7 = .ok (.aload_n 0, 1) := by decide +kernel
theorem dX8_stands_8 : decode cX8_stands 8 = .ok (.iconst 0, 1) := by decide +kernel
theorem dX8_stands_9 : decode cX8_stands 9 = .ok (.putfield 121, 3) := by decide +kernel
theorem dX8_stands_12 : decode cX8_stands 12 = .ok (.aload_n 0, 1) := by decide +kernel
theorem dX8_stands_13 : decode cX8_stands 13 = .ok (.dup, 1) := by decide +kernel
theorem dX8_stands_14 : decode cX8_stands 14 = .ok (.getfield 125, 3) := by decide +kernel
theorem dX8_stands_17 : decode cX8_stands 17 = .ok (.iload_n 1, 1) := by decide +kernel
theorem dX8_stands_18 : decode cX8_stands 18 = .ok (.bipush 85, 2) := by decide +kernel
theorem dX8_stands_20 : decode cX8_stands 20 = .ok (.if_icmp .ne 7, 3) := by decide +kernel
theorem dX8_stands_23 : decode cX8_stands 23 = .ok (.iconst 1, 1) := by decide +kernel
theorem dX8_stands_24 : decode cX8_stands 24 = .ok (.goto 4, 3) := by decide +kernel
theorem dX8_stands_27 : decode cX8_stands 27 = .ok (.iconst 0, 1) := by decide +kernel
theorem dX8_stands_28 : decode cX8_stands 28 = .ok (.iadd, 1) := by decide +kernel
theorem dX8_stands_29 : decode cX8_stands 29 = .ok (.putfield 125, 3) := by decide +kernel
theorem dX8_stands_32 : decode cX8_stands 32 = .ok (.iload_n 1, 1) := by decide +kernel
theorem dX8_stands_33 : decode cX8_stands 33 = .ok (.invokestatic 104, 3) := by decide +kernel
theorem dX8_stands_36 : decode cX8_stands 36 = .ok (.ireturn, 1) := by decide +kernel
theorem dX8_stands_37 : decode cX8_stands 37 = .ok (.iload_n 1, 1) := by decide +kernel
theorem dX8_stands_38 : decode cX8_stands 38 = .ok (.bipush 97, 2) := by decide +kernel
theorem dX8_stands_40 : decode cX8_stands 40 = .ok (.if_icmp .lt 9, 3) := by decide +kernel
theorem dX8_stands_43 : decode cX8_stands 43 = .ok (.iload_n 1, 1) := by decide +kernel
theorem dX8_stands_44 : decode cX8_stands 44 = .ok (.bipush 100, 2) := by decide +kernel
theorem dX8_stands_46 : decode cX8_stands 46 = .ok (.if_icmp .le 9, 3) := by decide +kernel
theorem dX8_stands_49 : decode cX8_stands 49 = .ok (.iload_n 1, 1) := by decide +kernel
theorem dX8_stands_50 : decode cX8_stands 50 = .ok (.bipush 116, 2) := by decide +kernel
theorem dX8_stands_52 : decode cX8_stands 52 = .ok (.if_icmp .ne 7, 3) := by decide +kernel
theorem dX8_stands_55 : decode cX8_stands 55 = .ok (.iconst 1, 1) := by decide +kernel
theorem dX8_stands_56 : decode cX8_stands 56 = .ok (.goto 4, 3) := by decide +kernel
theorem dX8_stands_59 : decode cX8_stands 59 = .ok (.iconst 0, 1) := by decide +kernel
theorem dX8_stands_60 : decode cX8_stands 60 = .ok (.istore_n 2, 1) := by decide +kernel
theorem dX8_stands_61 : decode cX8_stands 61 = .ok (.iload_n 1, 1) := by decide +kernel
theorem dX8_stands_62 : decode cX8_stands 62 = .ok (.bipush 38, 2) := by decide +kernel
theorem dX8_stands_64 : decode cX8_stands 64 = .ok (.if_icmp .eq 9, 3) := by decide +kernel
theorem dX8_stands_67 : decode cX8_stands 67 = .ok (.iload_n 1, 1) := by decide +kernel
theorem dX8_stands_68 : decode cX8_stands 68 = .ok (.bipush 124, 2) := by decide +kernel
theorem dX8_stands_70 : decode cX8_stands 70 = .ok (.if_icmp .ne 7, 3) := by decide +kernel
theorem dX8_stands_73 : decode cX8_stands 73 = .ok (.iconst 1, 1) := by decide +kernel
theorem dX8_stands_74 : decode cX8_stands 74 = .ok (.goto 4, 3) := by decide +kernel
theorem dX8_stands_77 : decode cX8_stands 77 = .ok (.iconst 0, 1) := by decide +kernel
theorem dX8_stands_78 : decode cX8_stands 78 = .ok (.istore_n 3, 1) := by decide +kernel
theorem dX8_stands_79 : decode cX8_stands 79 = .ok (.aload_n 0, 1) := by decide +kernel
theorem dX8_stands_80 : decode cX8_stands 80 = .ok (.iload_n 1, 1) := by decide +kernel
theorem dX8_stands_81 : decode cX8_stands 81 = .ok (.bipush 69, 2) := by decide +kernel
theorem dX8_stands_83 : decode cX8_stands 83 = .ok (.if_icmp .eq 9, 3) := by decide +kernel
theorem dX8_stands_86 : decode cX8_stands 86 = .ok (.iload_n 1, 1) := by decide +kernel
theorem dX8_stands_87 : decode cX8_stands 87 = .ok (.bipush 65, 2) := by decide +kernel
theorem dX8_stands_89 : decode cX8_stands 89 = .ok (.if_icmp .ne 7, 3) := by decide +kernel
theorem dX8_stands_92 : decode cX8_stands 92 = .ok (.iconst 1, 1) := by decide +kernel
theorem dX8_stands_93 : decode cX8_stands 93 = .ok (.goto 4, 3) := by decide +kernel
theorem dX8_stands_96 : decode cX8_stands 96 = .ok (.iconst 0, 1) := by decide +kernel
theorem dX8_stands_97 : decode cX8_stands 97 = .ok (.putfield 121, 3) := by decide +kernel
theorem dX8_stands_100 : decode cX8_stands 100 = .ok (.aload_n 0, 1) := by decide +kernel
theorem dX8_stands_101 : decode cX8_stands 101 = .ok (.getfield 125, 3) := by decide +kernel
theorem dX8_stands_104 : decode cX8_stands 104 = .ok (.ifCond .le 28, 3) := by decide +kernel
theorem dX8_stands_107 : decode cX8_stands 107 = .ok (.iload_n 2, 1) := by decide +kernel
theorem dX8_stands_108 : decode cX8_stands 108 = .ok (.ifCond .ne 20, 3) := by decide +kernel
theorem dX8_stands_111 : decode cX8_stands 111 = .ok (.iload_n 3, 1) := by decide +kernel
theorem dX8_stands_112 : decode cX8_stands 112 = .ok (.ifCond .ne 16, 3) := by decide +kernel
theorem dX8_stands_115 : decode cX8_stands 115 = .ok (.aload_n 0, 1) := by decide +kernel
theorem dX8_stands_116 : decode cX8_stands 116 = .ok (.getfield 121, 3) := by decide +kernel
theorem dX8_stands_119 : decode cX8_stands 119 = .ok (.ifCond .ne 9, 3) := by decide +kernel
theorem dX8_stands_122 : decode cX8_stands 122 = .ok (.iload_n 1, 1) := by decide +kernel
theorem dX8_stands_123 : decode cX8_stands 123 = .ok (.bipush 33, 2) := by decide +kernel
theorem dX8_stands_125 : decode cX8_stands 125 = .ok (.if_icmp .ne 7, 3) := by decide +kernel
theorem dX8_stands_128 : decode cX8_stands 128 = .ok (.iconst 1, 1) := by decide +kernel
theorem dX8_stands_129 : decode cX8_stands 129 = .ok (.goto 4, 3) := by decide +kernel
theorem dX8_stands_132 : decode cX8_stands 132 = .ok (.iconst 0, 1) := by decide +kernel
theorem dX8_stands_133 : decode cX8_stands 133 = .ok (.istore 4, 2) := by decide +kernel
theorem dX8_stands_135 : decode cX8_stands 135 = .ok (.aload_n 0, 1) := by decide +kernel
theorem dX8_stands_136 : decode cX8_stands 136 = .ok (.dup, 1) := by decide +kernel
theorem dX8_stands_137 : decode cX8_stands 137 = .ok (.getfield 125, 3) := by decide +kernel
theorem dX8_stands_140 : decode cX8_stands 140 = .ok (.iload_n 2, 1) := by decide +kernel
theorem dX8_stands_141 : decode cX8_stands 141 = .ok (.ifCond .eq 7, 3) := by decide +kernel
theorem dX8_stands_144 : decode cX8_stands 144 = .ok (.iconst (-1), 1) := by decide +kernel
theorem dX8_stands_145 : decode cX8_stands 145 = .ok (.goto 12, 3) := by decide +kernel
theorem dX8_stands_148 : decode cX8_stands 148 = .ok (.iload_n 3, 1) := by decide +kernel
theorem dX8_stands_149 : decode cX8_stands 149 = .ok (.ifCond .eq 7, 3) := by decide +kernel
theorem dX8_stands_152 : decode cX8_stands 152 = .ok (.iconst 1, 1) := by decide +kernel
theorem dX8_stands_153 : decode cX8_stands 153 = .ok (.goto 4, 3) := by decide +kernel
theorem dX8_stands_156 : decode cX8_stands 156 = .ok (.iconst 0, 1) := by decide +kernel
theorem dX8_stands_157 : decode cX8_stands 157 = .ok (.iadd, 1) := by decide +kernel
theorem dX8_stands_158 : decode cX8_stands 158 = .ok (.putfield 125, 3) := by decide +kernel
theorem dX8_stands_161 : decode cX8_stands 161 = .ok (.iload 4, 2) := by decide +kernel
theorem dX8_stands_163 : decode cX8_stands 163 = .ok (.ireturn, 1) := by decide +kernel
theorem dX8_readBuffer_0 : decode cX8_readBuffer 0 = .ok (.aload_n 0, 1) := by decide +kernel
theorem dX8_readBuffer_1 : decode cX8_readBuffer 1 = .ok (.iconst 1, 1) := by decide +kernel
theorem dX8_readBuffer_2 : decode cX8_readBuffer 2 = .ok (.putfield 125, 3) := by decide +kernel
theorem dX8_readBuffer_5 : decode cX8_readBuffer 5 = .ok (.aload_n 0, 1) := by decide +kernel
theorem dX8_readBuffer_6 : decode cX8_readBuffer 6 = .ok (.iconst 0, 1) := by decide +kernel
theorem dX8_readBuffer_7 : decode cX8_readBuffer 7 = .ok (.putfield 121, 3) := by decide +kernel
theorem dX8_readBuffer_10 : decode cX8_readBuffer 10 = .ok (.iconst 0, 1) := by decide +kernel
theorem dX8_readBuffer_11 : decode cX8_readBuffer 11 = .ok (.istore_n 1, 1) := by decide +kernel
theorem dX8_readBuffer_12 : decode cX8_readBuffer 12 = .ok (.iload_n 1, 1) := by decide +kernel
theorem dX8_readBuffer_13 : decode cX8_readBuffer 13 = .ok (.aload_n 0, 1) := by decide +kernel
theorem dX8_readBuffer_14 : decode cX8_readBuffer 14 = .ok (.getfield 118, 3) := by decide +kernel
theorem dX8_readBuffer_17 : decode cX8_readBuffer 17 = .ok (.if_icmp .ge 50, 3) := by decide +kernel
theorem dX8_readBuffer_20 : decode cX8_readBuffer 20 = .ok (.aload_n 0, 1) := by decide +kernel
theorem dX8_readBuffer_21 : decode cX8_readBuffer 21 = .ok (.aload_n 0, 1) := by decide +kernel
theorem dX8_readBuffer_22 : decode cX8_readBuffer 22 = .ok (.getfield 16, 3) := by decide +kernel
theorem dX8_readBuffer_25 : decode cX8_readBuffer 25 = .ok (.iload_n 1, 1) := by decide +kernel
theorem dX8_readBuffer_26 : decode cX8_readBuffer 26 = .ok (.iaload, 1) := by decide +kernel
theorem dX8_readBuffer_27 : decode cX8_readBuffer 27 = .ok (.invokevirtual 128, 3) := by decide +kernel
theorem dX8_readBuffer_30 : decode cX8_readBuffer 30 = .ok (.ifCond .eq 29, 3) := by decide +kernel
theorem dX8_readBuffer_33 : decode cX8_readBuffer 33 = .ok (.iload_n 1, 1) := by decide +kernel
theorem dX8_readBuffer_34 : decode cX8_readBuffer 34 = .ok (.iconst 1, 1) := by decide +kernel
theorem dX8_readBuffer_35 : decode cX8_readBuffer 35 = .ok (.iadd, 1) := by decide +kernel
theorem dX8_readBuffer_36 : decode cX8_readBuffer 36 = .ok (.aload_n 0, 1) := by decide +kernel
theorem dX8_readBuffer_37 : decode cX8_readBuffer 37 = .ok (.getfield 125, 3) := by decide +kernel
theorem dX8_readBuffer_40 : decode cX8_readBuffer 40 = .ok (.iadd, 1) := by decide +kernel
theorem dX8_readBuffer_41 : decode cX8_readBuffer 41 = .ok (.aload_n 0, 1) := by decide +kernel
theorem dX8_readBuffer_42 : decode cX8_readBuffer 42 = .ok (.getfield 121, 3) := by decide +kernel
theorem dX8_readBuffer_45 : decode cX8_readBuffer 45 = .ok (.ifCond .eq 7, 3) := by decide +kernel
theorem dX8_readBuffer_48 : decode cX8_readBuffer 48 = .ok (.iconst 1, 1) := by decide +kernel
theorem dX8_readBuffer_49 : decode cX8_readBuffer 49 = .ok (.goto 4, 3) := by decide +kernel
theorem dX8_readBuffer_52 : decode cX8_readBuffer 52 = .ok (.iconst 0, 1) := by decide +kernel
theorem dX8_readBuffer_53 : decode cX8_readBuffer 53 = .ok (.iadd, 1) := by decide +kernel
theorem dX8_readBuffer_54 : decode cX8_readBuffer 54 = .ok (.bipush 40, 2) := by decide +kernel
theorem dX8_readBuffer_56 : decode cX8_readBuffer 56 = .ok (.if_icmp .le 5, 3) := by decide +kernel
theorem dX8_readBuffer_59 : decode cX8_readBuffer 59 = .ok (.iload_n 1, 1) := by decide +kernel
theorem dX8_readBuffer_60 : decode cX8_readBuffer 60 = .ok (.ireturn, 1) := by decide +kernel
theorem dX8_readBuffer_61 : decode cX8_readBuffer 61 = .ok (.iinc 1 1, 3) := by decide +kernel
theorem dX8_readBuffer_64 : decode cX8_readBuffer 64 = .ok (.goto (-52), 3) := by decide +kernel
theorem dX8_readBuffer_67 : decode cX8_readBuffer 67 = .ok (.aload_n 0, 1) := by decide +kernel
theorem dX8_readBuffer_68 : decode cX8_readBuffer 68 = .ok (.getfield 118, 3) := by decide +kernel
theorem dX8_readBuffer_71 : decode cX8_readBuffer 71 = .ok (.ireturn, 1) := by decide +kernel
theorem dX8_firstError_0 : decode cX8_firstError 0 = .ok (.aload_n 0, 1) := by decide +kernel
theorem dX8_firstError_1 : decode cX8_firstError 1 = .ok (.iconst 0, 1) := by decide +kernel
theorem dX8_firstError_2 : decode cX8_firstError 2 = .ok (.putfield 37, 3) := by decide +kernel
theorem dX8_firstError_5 : decode cX8_firstError 5 = .ok (.aload_n 0, 1) := by decide +kernel
theorem dX8_firstError_6 : decode cX8_firstError 6 = .ok (.invokevirtual 131, 3) := by decide +kernel
theorem dX8_firstError_9 : decode cX8_firstError 9 = .ok (.ireturn, 1) := by decide +kernel
theorem dX8_isWhole_0 : decode cX8_isWhole 0 = .ok (.aload_n 0, 1) := by decide +kernel
theorem dX8_isWhole_1 : decode cX8_isWhole 1 = .ok (.invokevirtual 131, 3) := by decide +kernel
theorem dX8_isWhole_4 : decode cX8_isWhole 4 = .ok (.aload_n 0, 1) := by decide +kernel
theorem dX8_isWhole_5 : decode cX8_isWhole 5 = .ok (.getfield 118, 3) := by decide +kernel
theorem dX8_isWhole_8 : decode cX8_isWhole 8 = .ok (.if_icmp .ne 14, 3) := by decide +kernel
theorem dX8_isWhole_11 : decode cX8_isWhole 11 = .ok (.aload_n 0, 1) := by decide +kernel
theorem dX8_isWhole_12 : decode cX8_isWhole 12 = .ok (.getfield 125, 3) := by decide +kernel
theorem dX8_isWhole_15 : decode cX8_isWhole 15 = .ok (.ifCond .ne 7, 3) := by decide +kernel
theorem dX8_isWhole_18 : decode cX8_isWhole 18 = .ok (.iconst 1, 1) := by decide +kernel
theorem dX8_isWhole_19 : decode cX8_isWhole 19 = .ok (.goto 4, 3) := by decide +kernel
theorem dX8_isWhole_22 : decode cX8_isWhole 22 = .ok (.iconst 0, 1) := by decide +kernel
theorem dX8_isWhole_23 : decode cX8_isWhole 23 = .ok (.ireturn, 1) := by decide +kernel
theorem dX8_read_0 : decode cX8_read 0 = .ok (.aload_n 0, 1) := by decide +kernel
theorem dX8_read_1 : decode cX8_read 1 = .ok (.iload_n 1, 1) := by decide +kernel
theorem dX8_read_2 : decode cX8_read 2 = .ok (.invokestatic 134, 3) := by decide +kernel
theorem dX8_read_5 : decode cX8_read 5 = .ok (.ifCond .ne 7, 3) := by decide +kernel
theorem dX8_read_8 : decode cX8_read 8 = .ok (.iconst 1, 1) := by decide +kernel
theorem dX8_read_9 : decode cX8_read 9 = .ok (.goto 15, 3) := by decide +kernel
theorem dX8_read_12 : decode cX8_read 12 = .ok (.aload_n 0, 1) := by decide +kernel
theorem dX8_read_13 : decode cX8_read 13 = .ok (.invokevirtual 137, 3) := by decide +kernel
theorem dX8_read_16 : decode cX8_read 16 = .ok (.ifCond .eq 7, 3) := by decide +kernel
theorem dX8_read_19 : decode cX8_read 19 = .ok (.iconst 0, 1) := by decide +kernel
theorem dX8_read_20 : decode cX8_read 20 = .ok (.goto 4, 3) := by decide +kernel
theorem dX8_read_23 : decode cX8_read 23 = .ok (.iconst 2, 1) := by decide +kernel
theorem dX8_read_24 : decode cX8_read 24 = .ok (.putfield 37, 3) := by decide +kernel
theorem dX8_read_27 : decode cX8_read 27 = .ok (.aload_n 0, 1) := by decide +kernel
theorem dX8_read_28 : decode cX8_read 28 = .ok (.getfield 37, 3) := by decide +kernel
theorem dX8_read_31 : decode cX8_read 31 = .ok (.ifCond .le 5, 3) := by decide +kernel
theorem dX8_read_34 : decode cX8_read 34 = .ok (.iconst 0, 1) := by decide +kernel
theorem dX8_read_35 : decode cX8_read 35 = .ok (.ireturn, 1) := by decide +kernel
theorem dX8_read_36 : decode cX8_read 36 = .ok (.aload_n 0, 1) := by decide +kernel
theorem dX8_read_37 : decode cX8_read 37 = .ok (.invokevirtual 48, 3) := by decide +kernel
theorem dX8_read_40 : decode cX8_read 40 = .ok (.aload_n 0, 1) := by decide +kernel
theorem dX8_read_41 : decode cX8_read 41 = .ok (.getfield 7, 3) := by decide +kernel
theorem dX8_read_44 : decode cX8_read 44 = .ok (.bipush 22, 2) := by decide +kernel
theorem dX8_read_46 : decode cX8_read 46 = .ok (.bipush 41, 2) := by decide +kernel
theorem dX8_read_48 : decode cX8_read 48 = .ok (.iload_n 1, 1) := by decide +kernel
theorem dX8_read_49 : decode cX8_read 49 = .ok (.imul, 1) := by decide +kernel
theorem dX8_read_50 : decode cX8_read 50 = .ok (.iadd, 1) := by decide +kernel
theorem dX8_read_51 : decode cX8_read 51 = .ok (.aload_n 0, 1) := by decide +kernel
theorem dX8_read_52 : decode cX8_read 52 = .ok (.getfield 118, 3) := by decide +kernel
theorem dX8_read_55 : decode cX8_read 55 = .ok (.iastore, 1) := by decide +kernel
theorem dX8_read_56 : decode cX8_read 56 = .ok (.iconst 0, 1) := by decide +kernel
theorem dX8_read_57 : decode cX8_read 57 = .ok (.istore_n 2, 1) := by decide +kernel
theorem dX8_read_58 : decode cX8_read 58 = .ok (.iload_n 2, 1) := by decide +kernel
theorem dX8_read_59 : decode cX8_read 59 = .ok (.bipush 40, 2) := by decide +kernel
theorem dX8_read_61 : decode cX8_read 61 = .ok (.if_icmp .ge 43, 3) := by decide +kernel
theorem dX8_read_64 : decode cX8_read 64 = .ok (.aload_n 0, 1) := by decide +kernel
theorem dX8_read_65 : decode cX8_read 65 = .ok (.getfield 7, 3) := by decide +kernel
theorem dX8_read_68 : decode cX8_read 68 = .ok (.bipush 22, 2) := by decide +kernel
theorem dX8_read_70 : decode cX8_read 70 = .ok (.bipush 41, 2) := by decide +kernel
theorem dX8_read_72 : decode cX8_read 72 = .ok (.iload_n 1, 1) := by decide +kernel
theorem dX8_read_73 : decode cX8_read 73 = .ok (.imul, 1) := by decide +kernel
theorem dX8_read_74 : decode cX8_read 74 = .ok (.iadd, 1) := by decide +kernel
theorem dX8_read_75 : decode cX8_read 75 = .ok (.iconst 1, 1) := by decide +kernel
theorem dX8_read_76 : decode cX8_read 76 = .ok (.iadd, 1) := by decide +kernel
theorem dX8_read_77 : decode cX8_read 77 = .ok (.iload_n 2, 1) := by decide +kernel
theorem dX8_read_78 : decode cX8_read 78 = .ok (.iadd, 1) := by decide +kernel
theorem dX8_read_79 : decode cX8_read 79 = .ok (.iload_n 2, 1) := by decide +kernel
theorem dX8_read_80 : decode cX8_read 80 = .ok (.aload_n 0, 1) := by decide +kernel
theorem dX8_read_81 : decode cX8_read 81 = .ok (.getfield 118, 3) := by decide +kernel
theorem dX8_read_84 : decode cX8_read 84 = .ok (.if_icmp .ge 12, 3) := by decide +kernel
theorem dX8_read_87 : decode cX8_read 87 = .ok (.aload_n 0, 1) := by decide +kernel
theorem dX8_read_88 : decode cX8_read 88 = .ok (.getfield 16, 3) := by decide +kernel
theorem dX8_read_91 : decode cX8_read 91 = .ok (.iload_n 2, 1) := by decide +kernel
theorem dX8_read_92 : decode cX8_read 92 = .ok (.iaload, 1) := by decide +kernel
theorem dX8_read_93 : decode cX8_read 93 = .ok (.goto 4, 3) := by decide +kernel
theorem dX8_read_96 : decode cX8_read 96 = .ok (.iconst 0, 1) := by decide +kernel
theorem dX8_read_97 : decode cX8_read 97 = .ok (.iastore, 1) := by decide +kernel
theorem dX8_read_98 : decode cX8_read 98 = .ok (.iinc 2 1, 3) := by decide +kernel
theorem dX8_read_101 : decode cX8_read 101 = .ok (.goto (-43), 3) := by decide +kernel
theorem dX8_read_104 : decode cX8_read 104 = .ok (.aload_n 0, 1) := by decide +kernel
theorem dX8_read_105 : decode cX8_read 105 = .ok (.getfield 118, 3) := by decide +kernel
theorem dX8_read_108 : decode cX8_read 108 = .ok (.istore_n 2, 1) := by decide +kernel
theorem dX8_read_109 : decode cX8_read 109 = .ok (.aload_n 0, 1) := by decide +kernel
theorem dX8_read_110 : decode cX8_read 110 = .ok (.iconst 0, 1) := by decide +kernel
theorem dX8_read_111 : decode cX8_read 111 = .ok (.putfield 118, 3) := by decide +kernel
theorem dX8_read_114 : decode cX8_read 114 = .ok (.iload_n 2, 1) := by decide +kernel
theorem dX8_read_115 : decode cX8_read 115 = .ok (.ireturn, 1) := by decide +kernel
theorem dX8_whyNotNegate_0 : decode cX8_whyNotNegate 0 = .ok (.iload_n 1, 1) := by decide +kernel
theorem dX8_whyNotNegate_1 : decode cX8_whyNotNegate 1 = .ok (.invokestatic 134, 3) := by decide +kernel
theorem dX8_whyNotNegate_4 : decode cX8_whyNotNegate 4 = .ok (.ifCond .ne 5, 3) := by decide +kernel
theorem dX8_whyNotNegate_7 : decode cX8_whyNotNegate 7 = .ok (.iconst 1, 1) := by decide +kernel
theorem dX8_whyNotNegate_8 : decode cX8_whyNotNegate 8 = .ok (.ireturn, 1) := by decide +kernel
theorem dX8_whyNotNegate_9 : decode cX8_whyNotNegate 9 = .ok (.aload_n 0, 1) := by decide +kernel
theorem dX8_whyNotNegate_10 : decode cX8_whyNotNegate 10 = .ok (.iload_n 1, 1) := by decide +kernel
theorem dX8_whyNotNegate_11 : decode cX8_whyNotNegate 11 = .ok (.invokevirtual 101, 3) := by decide +kernel
theorem dX8_whyNotNegate_14 : decode cX8_whyNotNegate 14 = .ok (.bipush 40, 2) := by decide +kernel
theorem dX8_whyNotNegate_16 : decode cX8_whyNotNegate 16 = .ok (.if_icmp .ne 18, 3) := by decide +kernel
theorem dX8_whyNotNegate_19 : decode cX8_whyNotNegate 19 = .ok (.aload_n 0, 1) := by decide +kernel
theorem dX8_whyNotNegate_20 : decode cX8_whyNotNegate 20 = .ok (.iload_n 1, 1) := by decide +kernel
theorem dX8_whyNotNegate_21 : decode cX8_whyNotNegate 21 = .ok (.iconst 0, 1) := by decide +kernel
theorem dX8_whyNotNegate_22 : decode cX8_whyNotNegate 22 = .ok (.invokevirtual 91, 3) := by decide +kernel
theorem dX8_whyNotNegate_25 : decode cX8_whyNotNegate 25 = .ok (.bipush 33, 2) := by decide +kernel
theorem dX8_whyNotNegate_27 : decode cX8_whyNotNegate 27 = .ok (.if_icmp .eq 7, 3) := by decide +kernel
theorem dX8_whyNotNegate_30 : decode cX8_whyNotNegate 30 = .ok (.iconst 1, 1) := by decide +kernel
theorem dX8_whyNotNegate_31 : decode cX8_whyNotNegate 31 = .ok (.goto 4, 3) := by decide +kernel
theorem dX8_whyNotNegate_34 : decode cX8_whyNotNegate 34 = .ok (.iconst 0, 1) := by decide +kernel
theorem dX8_whyNotNegate_35 : decode cX8_whyNotNegate 35 = .ok (.istore_n 2, 1) := by decide +kernel
theorem dX8_whyNotNegate_36 : decode cX8_whyNotNegate 36 = .ok (.aload_n 0, 1) := by decide +kernel
theorem dX8_whyNotNegate_37 : decode cX8_whyNotNegate 37 = .ok (.iload_n 1, 1) := by decide +kernel
theorem dX8_whyNotNegate_38 : decode cX8_whyNotNegate 38 = .ok (.invokevirtual 101, 3) := by decide +kernel
theorem dX8_whyNotNegate_41 : decode cX8_whyNotNegate 41 = .ok (.ifCond .eq 7, 3) := by decide +kernel
theorem dX8_whyNotNegate_44 : decode cX8_whyNotNegate 44 = .ok (.iload_n 2, 1) := by decide +kernel
theorem dX8_whyNotNegate_45 : decode cX8_whyNotNegate 45 = .ok (.ifCond .eq 7, 3) := by decide +kernel
theorem dX8_whyNotNegate_48 : decode cX8_whyNotNegate 48 = .ok (.iconst 2, 1) := by decide +kernel
theorem dX8_whyNotNegate_49 : decode cX8_whyNotNegate 49 = .ok (.goto 4, 3) := by decide +kernel
theorem dX8_whyNotNegate_52 : decode cX8_whyNotNegate 52 = .ok (.iconst 0, 1) := by decide +kernel
theorem dX8_whyNotNegate_53 : decode cX8_whyNotNegate 53 = .ok (.ireturn, 1) := by decide +kernel
theorem dX8_negate_0 : decode cX8_negate 0 = .ok (.aload_n 0, 1) := by decide +kernel
theorem dX8_negate_1 : decode cX8_negate 1 = .ok (.aload_n 0, 1) := by decide +kernel
theorem dX8_negate_2 : decode cX8_negate 2 = .ok (.iload_n 1, 1) := by decide +kernel
theorem dX8_negate_3 : decode cX8_negate 3 = .ok (.invokevirtual 141, 3) := by decide +kernel
theorem dX8_negate_6 : decode cX8_negate 6 = .ok (.putfield 37, 3) := by decide +kernel
theorem dX8_negate_9 : decode cX8_negate 9 = .ok (.aload_n 0, 1) := by decide +kernel
theorem dX8_negate_10 : decode cX8_negate 10 = .ok (.getfield 37, 3) := by decide +kernel
theorem dX8_negate_13 : decode cX8_negate 13 = .ok (.ifCond .le 5, 3) := by decide +kernel
theorem dX8_negate_16 : decode cX8_negate 16 = .ok (.iconst 0, 1) := by decide +kernel
theorem dX8_negate_17 : decode cX8_negate 17 = .ok (.ireturn, 1) := by decide +kernel
theorem dX8_negate_18 : decode cX8_negate 18 = .ok (.aload_n 0, 1) := by decide +kernel
theorem dX8_negate_19 : decode cX8_negate 19 = .ok (.invokevirtual 48, 3) := by decide +kernel
theorem dX8_negate_22 : decode cX8_negate 22 = .ok (.bipush 22, 2) := by decide +kernel
theorem dX8_negate_24 : decode cX8_negate 24 = .ok (.bipush 41, 2) := by decide +kernel
theorem dX8_negate_26 : decode cX8_negate 26 = .ok (.iload_n 1, 1) := by decide +kernel
theorem dX8_negate_27 : decode cX8_negate 27 = .ok (.imul, 1) := by decide +kernel
theorem dX8_negate_28 : decode cX8_negate 28 = .ok (.iadd, 1) := by decide +kernel
theorem dX8_negate_29 : decode cX8_negate 29 = .ok (.istore_n 2, 1) := by decide +kernel
theorem dX8_negate_30 : decode cX8_negate 30 = .ok (.aload_n 0, 1) := by decide +kernel
theorem dX8_negate_31 : decode cX8_negate 31 = .ok (.getfield 7, 3) := by decide +kernel
theorem dX8_negate_34 : decode cX8_negate 34 = .ok (.iload_n 2, 1) := by decide +kernel
theorem dX8_negate_35 : decode cX8_negate 35 = .ok (.iconst 1, 1) := by decide +kernel
theorem dX8_negate_36 : decode cX8_negate 36 = .ok (.iadd, 1) := by decide +kernel
theorem dX8_negate_37 : decode cX8_negate 37 = .ok (.iaload, 1) := by decide +kernel
theorem dX8_negate_38 : decode cX8_negate 38 = .ok (.bipush 33, 2) := by decide +kernel
theorem dX8_negate_40 : decode cX8_negate 40 = .ok (.if_icmp .ne 58, 3) := by decide +kernel
theorem dX8_negate_43 : decode cX8_negate 43 = .ok (.iconst 1, 1) := by decide +kernel
theorem dX8_negate_44 : decode cX8_negate 44 = .ok (.istore_n 3, 1) := by decide +kernel
theorem dX8_negate_45 : decode cX8_negate 45 = .ok (.iload_n 3, 1) := by decide +kernel
theorem dX8_negate_46 : decode cX8_negate 46 = .ok (.bipush 40, 2) := by decide +kernel
theorem dX8_negate_48 : decode cX8_negate 48 = .ok (.if_icmp .ge 27, 3) := by decide +kernel
theorem dX8_negate_51 : decode cX8_negate 51 = .ok (.aload_n 0, 1) := by decide +kernel
theorem dX8_negate_52 : decode cX8_negate 52 = .ok (.getfield 7, 3) := by decide +kernel
theorem dX8_negate_55 : decode cX8_negate 55 = .ok (.iload_n 2, 1) := by decide +kernel
theorem dX8_negate_56 : decode cX8_negate 56 = .ok (.iload_n 3, 1) := by decide +kernel
theorem dX8_negate_57 : decode cX8_negate 57 = .ok (.iadd, 1) := by decide +kernel
theorem dX8_negate_58 : decode cX8_negate 58 = .ok (.aload_n 0, 1) := by decide +kernel
theorem dX8_negate_59 : decode cX8_negate 59 = .ok (.getfield 7, 3) := by decide +kernel
theorem dX8_negate_62 : decode cX8_negate 62 = .ok (.iload_n 2, 1) := by decide +kernel
theorem dX8_negate_63 : decode cX8_negate 63 = .ok (.iload_n 3, 1) := by decide +kernel
theorem dX8_negate_64 : decode cX8_negate 64 = .ok (.iadd, 1) := by decide +kernel
theorem dX8_negate_65 : decode cX8_negate 65 = .ok (.iconst 1, 1) := by decide +kernel
theorem dX8_negate_66 : decode cX8_negate 66 = .ok (.iadd, 1) := by decide +kernel
theorem dX8_negate_67 : decode cX8_negate 67 = .ok (.iaload, 1) := by decide +kernel
theorem dX8_negate_68 : decode cX8_negate 68 = .ok (.iastore, 1) := by decide +kernel
theorem dX8_negate_69 : decode cX8_negate 69 = .ok (.iinc 3 1, 3) := by decide +kernel
theorem dX8_negate_72 : decode cX8_negate 72 = .ok (.goto (-27), 3) := by decide +kernel
theorem dX8_negate_75 : decode cX8_negate 75 = .ok (.aload_n 0, 1) := by decide +kernel
theorem dX8_negate_76 : decode cX8_negate 76 = .ok (.getfield 7, 3) := by decide +kernel
theorem dX8_negate_79 : decode cX8_negate 79 = .ok (.iload_n 2, 1) := by decide +kernel
theorem dX8_negate_80 : decode cX8_negate 80 = .ok (.bipush 40, 2) := by decide +kernel
theorem dX8_negate_82 : decode cX8_negate 82 = .ok (.iadd, 1) := by decide +kernel
theorem dX8_negate_83 : decode cX8_negate 83 = .ok (.iconst 0, 1) := by decide +kernel
theorem dX8_negate_84 : decode cX8_negate 84 = .ok (.iastore, 1) := by decide +kernel
theorem dX8_negate_85 : decode cX8_negate 85 = .ok (.aload_n 0, 1) := by decide +kernel
theorem dX8_negate_86 : decode cX8_negate 86 = .ok (.getfield 7, 3) := by decide +kernel
theorem dX8_negate_89 : decode cX8_negate 89 = .ok (.iload_n 2, 1) := by decide +kernel
theorem dX8_negate_90 : decode cX8_negate 90 = .ok (.dup2, 1) := by decide +kernel
theorem dX8_negate_91 : decode cX8_negate 91 = .ok (.iaload, 1) := by decide +kernel
theorem dX8_negate_92 : decode cX8_negate 92 = .ok (.iconst 1, 1) := by decide +kernel
theorem dX8_negate_93 : decode cX8_negate 93 = .ok (.isub, 1) := by decide +kernel
theorem dX8_negate_94 : decode cX8_negate 94 = .ok (.iastore, 1) := by decide +kernel
theorem dX8_negate_95 : decode cX8_negate 95 = .ok (.goto 55, 3) := by decide +kernel
theorem dX8_negate_98 : decode cX8_negate 98 = .ok (.bipush 40, 2) := by decide +kernel
theorem dX8_negate_100 : decode cX8_negate 100 = .ok (.istore_n 3, 1) := by decide +kernel
theorem dX8_negate_101 : decode cX8_negate 101 = .ok (.iload_n 3, 1) := by decide +kernel
theorem dX8_negate_102 : decode cX8_negate 102 = .ok (.iconst 1, 1) := by decide +kernel
theorem dX8_negate_103 : decode cX8_negate 103 = .ok (.if_icmp .le 27, 3) := by decide +kernel
theorem dX8_negate_106 : decode cX8_negate 106 = .ok (.aload_n 0, 1) := by decide +kernel
theorem dX8_negate_107 : decode cX8_negate 107 = .ok (.getfield 7, 3) := by decide +kernel
theorem dX8_negate_110 : decode cX8_negate 110 = .ok (.iload_n 2, 1) := by decide +kernel
theorem dX8_negate_111 : decode cX8_negate 111 = .ok (.iload_n 3, 1) := by decide +kernel
theorem dX8_negate_112 : decode cX8_negate 112 = .ok (.iadd, 1) := by decide +kernel
theorem dX8_negate_113 : decode cX8_negate 113 = .ok (.aload_n 0, 1) := by decide +kernel
theorem dX8_negate_114 : decode cX8_negate 114 = .ok (.getfield 7, 3) := by decide +kernel
theorem dX8_negate_117 : decode cX8_negate 117 = .ok (.iload_n 2, 1) := by decide +kernel
theorem dX8_negate_118 : decode cX8_negate 118 = .ok (.iload_n 3, 1) := by decide +kernel
theorem dX8_negate_119 : decode cX8_negate 119 = .ok (.iadd, 1) := by decide +kernel
theorem dX8_negate_120 : decode cX8_negate 120 = .ok (.iconst 1, 1) := by decide +kernel
theorem dX8_negate_121 : decode cX8_negate 121 = .ok (.isub, 1) := by decide +kernel
theorem dX8_negate_122 : decode cX8_negate 122 = .ok (.iaload, 1) := by decide +kernel
theorem dX8_negate_123 : decode cX8_negate 123 = .ok (.iastore, 1) := by decide +kernel
theorem dX8_negate_124 : decode cX8_negate 124 = .ok (.iinc 3 (-1), 3) := by decide +kernel
theorem dX8_negate_127 : decode cX8_negate 127 = .ok (.goto (-26), 3) := by decide +kernel
theorem dX8_negate_130 : decode cX8_negate 130 = .ok (.aload_n 0, 1) := by decide +kernel
theorem dX8_negate_131 : decode cX8_negate 131 = .ok (.getfield 7, 3) := by decide +kernel
theorem dX8_negate_134 : decode cX8_negate 134 = .ok (.iload_n 2, 1) := by decide +kernel
theorem dX8_negate_135 : decode cX8_negate 135 = .ok (.iconst 1, 1) := by decide +kernel
theorem dX8_negate_136 : decode cX8_negate 136 = .ok (.iadd, 1) := by decide +kernel
theorem dX8_negate_137 : decode cX8_negate 137 = .ok (.bipush 33, 2) := by decide +kernel
theorem dX8_negate_139 : decode cX8_negate 139 = .ok (.iastore, 1) := by decide +kernel
theorem dX8_negate_140 : decode cX8_negate 140 = .ok (.aload_n 0, 1) := by decide +kernel
theorem dX8_negate_141 : decode cX8_negate 141 = .ok (.getfield 7, 3) := by decide +kernel
theorem dX8_negate_144 : decode cX8_negate 144 = .ok (.iload_n 2, 1) := by decide +kernel
theorem dX8_negate_145 : decode cX8_negate 145 = .ok (.dup2, 1) := by decide +kernel
theorem dX8_negate_146 : decode cX8_negate 146 = .ok (.iaload, 1) := by decide +kernel
theorem dX8_negate_147 : decode cX8_negate 147 = .ok (.iconst 1, 1) := by decide +kernel
theorem dX8_negate_148 : decode cX8_negate 148 = .ok (.iadd, 1) := by decide +kernel
theorem dX8_negate_149 : decode cX8_negate 149 = .ok (.iastore, 1) := by decide +kernel
theorem dX8_negate_150 : decode cX8_negate 150 = .ok (.aload_n 0, 1) := by decide +kernel
theorem dX8_negate_151 : decode cX8_negate 151 = .ok (.getfield 7, 3) := by decide +kernel
theorem dX8_negate_154 : decode cX8_negate 154 = .ok (.iload_n 2, 1) := by decide +kernel
theorem dX8_negate_155 : decode cX8_negate 155 = .ok (.iaload, 1) := by decide +kernel
theorem dX8_negate_156 : decode cX8_negate 156 = .ok (.ireturn, 1) := by decide +kernel
theorem dX8_giveUp_0 : decode cX8_giveUp 0 = .ok (.aload_n 0, 1) := by decide +kernel
theorem dX8_giveUp_1 : decode cX8_giveUp 1 = .ok (.iload_n 1, 1) := by decide +kernel
theorem dX8_giveUp_2 : decode cX8_giveUp 2 = .ok (.invokestatic 134, 3) := by decide +kernel
theorem dX8_giveUp_5 : decode cX8_giveUp 5 = .ok (.ifCond .eq 7, 3) := by decide +kernel
theorem dX8_giveUp_8 : decode cX8_giveUp 8 = .ok (.iconst 0, 1) := by decide +kernel
theorem dX8_giveUp_9 : decode cX8_giveUp 9 = .ok (.goto 4, 3) := by decide +kernel
theorem dX8_giveUp_12 : decode cX8_giveUp 12 = .ok (.iconst 1, 1) := by decide +kernel
theorem dX8_giveUp_13 : decode cX8_giveUp 13 = .ok (.putfield 37, 3) := by decide +kernel
theorem dX8_giveUp_16 : decode cX8_giveUp 16 = .ok (.aload_n 0, 1) := by decide +kernel
theorem dX8_giveUp_17 : decode cX8_giveUp 17 = .ok (.getfield 37, 3) := by decide +kernel
theorem dX8_giveUp_20 : decode cX8_giveUp 20 = .ok (.ifCond .le 5, 3) := by decide +kernel
theorem dX8_giveUp_23 : decode cX8_giveUp 23 = .ok (.iconst 0, 1) := by decide +kernel
theorem dX8_giveUp_24 : decode cX8_giveUp 24 = .ok (.ireturn, 1) := by decide +kernel
theorem dX8_giveUp_25 : decode cX8_giveUp 25 = .ok (.aload_n 0, 1) := by decide +kernel
theorem dX8_giveUp_26 : decode cX8_giveUp 26 = .ok (.invokevirtual 48, 3) := by decide +kernel
theorem dX8_giveUp_29 : decode cX8_giveUp 29 = .ok (.aload_n 0, 1) := by decide +kernel
theorem dX8_giveUp_30 : decode cX8_giveUp 30 = .ok (.iload_n 1, 1) := by decide +kernel
theorem dX8_giveUp_31 : decode cX8_giveUp 31 = .ok (.invokevirtual 101, 3) := by decide +kernel
theorem dX8_giveUp_34 : decode cX8_giveUp 34 = .ok (.istore_n 2, 1) := by decide +kernel
theorem dX8_giveUp_35 : decode cX8_giveUp 35 = .ok (.iconst 0, 1) := by decide +kernel
theorem dX8_giveUp_36 : decode cX8_giveUp 36 = .ok (.istore_n 3, 1) := by decide +kernel
theorem dX8_giveUp_37 : decode cX8_giveUp 37 = .ok (.iload_n 3, 1) := by decide +kernel
theorem dX8_giveUp_38 : decode cX8_giveUp 38 = .ok (.bipush 41, 2) := by decide +kernel
theorem dX8_giveUp_40 : decode cX8_giveUp 40 = .ok (.if_icmp .ge 24, 3) := by decide +kernel
theorem dX8_giveUp_43 : decode cX8_giveUp 43 = .ok (.aload_n 0, 1) := by decide +kernel
theorem dX8_giveUp_44 : decode cX8_giveUp 44 = .ok (.getfield 7, 3) := by decide +kernel
theorem dX8_giveUp_47 : decode cX8_giveUp 47 = .ok (.bipush 22, 2) := by decide +kernel
theorem dX8_giveUp_49 : decode cX8_giveUp 49 = .ok (.bipush 41, 2) := by decide +kernel
theorem dX8_giveUp_51 : decode cX8_giveUp 51 = .ok (.iload_n 1, 1) := by decide +kernel
theorem dX8_giveUp_52 : decode cX8_giveUp 52 = .ok (.imul, 1) := by decide +kernel
theorem dX8_giveUp_53 : decode cX8_giveUp 53 = .ok (.iadd, 1) := by decide +kernel
theorem dX8_giveUp_54 : decode cX8_giveUp 54 = .ok (.iload_n 3, 1) := by decide +kernel
theorem dX8_giveUp_55 : decode cX8_giveUp 55 = .ok (.iadd, 1) := by decide +kernel
theorem dX8_giveUp_56 : decode cX8_giveUp 56 = .ok (.iconst 0, 1) := by decide +kernel
theorem dX8_giveUp_57 : decode cX8_giveUp 57 = .ok (.iastore, 1) := by decide +kernel
theorem dX8_giveUp_58 : decode cX8_giveUp 58 = .ok (.iinc 3 1, 3) := by decide +kernel
theorem dX8_giveUp_61 : decode cX8_giveUp 61 = .ok (.goto (-24), 3) := by decide +kernel
theorem dX8_giveUp_64 : decode cX8_giveUp 64 = .ok (.iload_n 2, 1) := by decide +kernel
theorem dX8_giveUp_65 : decode cX8_giveUp 65 = .ok (.ireturn, 1) := by decide +kernel
theorem dX8_wishesAt_0 : decode cX8_wishesAt 0 = .ok (.iconst 0, 1) := by decide +kernel
theorem dX8_wishesAt_1 : decode cX8_wishesAt 1 = .ok (.istore_n 2, 1) := by decide +kernel
theorem dX8_wishesAt_2 : decode cX8_wishesAt 2 = .ok (.iconst 0, 1) := by decide +kernel
theorem dX8_wishesAt_3 : decode cX8_wishesAt 3 = .ok (.istore_n 3, 1) := by decide +kernel
theorem dX8_wishesAt_4 : decode cX8_wishesAt 4 = .ok (.iload_n 3, 1) := by decide +kernel
theorem dX8_wishesAt_5 : decode cX8_wishesAt 5 = .ok (.iconst 4, 1) := by decide +kernel
theorem dX8_wishesAt_6 : decode cX8_wishesAt 6 = .ok (.if_icmp .ge 40, 3) := by decide +kernel
theorem dX8_wishesAt_9 : decode cX8_wishesAt 9 = .ok (.iload_n 2, 1) := by decide +kernel
theorem dX8_wishesAt_10 : decode cX8_wishesAt 10 = .ok (.aload_n 0, 1) := by decide +kernel
theorem dX8_wishesAt_11 : decode cX8_wishesAt 11 = .ok (.iload_n 3, 1) := by decide +kernel
theorem dX8_wishesAt_12 : decode cX8_wishesAt 12 = .ok (.invokevirtual 101, 3) := by decide +kernel
theorem dX8_wishesAt_15 : decode cX8_wishesAt 15 = .ok (.ifCond .le 22, 3) := by decide +kernel
theorem dX8_wishesAt_18 : decode cX8_wishesAt 18 = .ok (.aload_n 0, 1) := by decide +kernel
theorem dX8_wishesAt_19 : decode cX8_wishesAt 19 = .ok (.iload_n 3, 1) := by decide +kernel
theorem dX8_wishesAt_20 : decode cX8_wishesAt 20 = .ok (.invokevirtual 144, 3) := by decide +kernel
theorem dX8_wishesAt_23 : decode cX8_wishesAt 23 = .ok (.iload_n 1, 1) := by decide +kernel
theorem dX8_wishesAt_24 : decode cX8_wishesAt 24 = .ok (.ishr, 1) := by decide +kernel
theorem dX8_wishesAt_25 : decode cX8_wishesAt 25 = .ok (.iconst 1, 1) := by decide +kernel
theorem dX8_wishesAt_26 : decode cX8_wishesAt 26 = .ok (.iand, 1) := by decide +kernel
theorem dX8_wishesAt_27 : decode cX8_wishesAt 27 = .ok (.iconst 1, 1) := by decide +kernel
theorem dX8_wishesAt_28 : decode cX8_wishesAt 28 = .ok (.if_icmp .ne 9, 3) := by decide +kernel
theorem dX8_wishesAt_31 : decode cX8_wishesAt 31 = .ok (.iconst 1, 1) := by decide +kernel
theorem dX8_wishesAt_32 : decode cX8_wishesAt 32 = .ok (.iload_n 3, 1) := by decide +kernel
theorem dX8_wishesAt_33 : decode cX8_wishesAt 33 = .ok (.ishl, 1) := by decide +kernel
theorem dX8_wishesAt_34 : decode cX8_wishesAt 34 = .ok (.goto 4, 3) := by decide +kernel
theorem dX8_wishesAt_37 : decode cX8_wishesAt 37 = .ok (.iconst 0, 1) := by decide +kernel
theorem dX8_wishesAt_38 : decode cX8_wishesAt 38 = .ok (.ior, 1) := by decide +kernel
theorem dX8_wishesAt_39 : decode cX8_wishesAt 39 = .ok (.istore_n 2, 1) := by decide +kernel
theorem dX8_wishesAt_40 : decode cX8_wishesAt 40 = .ok (.iinc 3 1, 3) := by decide +kernel
theorem dX8_wishesAt_43 : decode cX8_wishesAt 43 = .ok (.goto (-39), 3) := by decide +kernel
theorem dX8_wishesAt_46 : decode cX8_wishesAt 46 = .ok (.iload_n 2, 1) := by decide +kernel
theorem dX8_wishesAt_47 : decode cX8_wishesAt 47 = .ok (.ireturn, 1) := by decide +kernel
theorem dX8_toldWorld_0 : decode cX8_toldWorld 0 = .ok (.iload_n 2, 1) := by decide +kernel
theorem dX8_toldWorld_1 : decode cX8_toldWorld 1 = .ok (.tableswitch 67 0 3 #[31, 40, 50, 58], 31) := by decide +kernel
theorem dX8_toldWorld_32 : decode cX8_toldWorld 32 = .ok (.aload_n 0, 1) := by decide +kernel
theorem dX8_toldWorld_33 : decode cX8_toldWorld 33 = .ok (.getfield 7, 3) := by decide +kernel
theorem dX8_toldWorld_36 : decode cX8_toldWorld 36 = .ok (.iconst 2, 1) := by decide +kernel
theorem dX8_toldWorld_37 : decode cX8_toldWorld 37 = .ok (.iload_n 1, 1) := by decide +kernel
theorem dX8_toldWorld_38 : decode cX8_toldWorld 38 = .ok (.iadd, 1) := by decide +kernel
theorem dX8_toldWorld_39 : decode cX8_toldWorld 39 = .ok (.iaload, 1) := by decide +kernel
theorem dX8_toldWorld_40 : decode cX8_toldWorld 40 = .ok (.ireturn, 1) := by decide +kernel
theorem dX8_toldWorld_41 : decode cX8_toldWorld 41 = .ok (.aload_n 0, 1) := by decide +kernel
theorem dX8_toldWorld_42 : decode cX8_toldWorld 42 = .ok (.getfield 7, 3) := by decide +kernel
theorem dX8_toldWorld_45 : decode cX8_toldWorld 45 = .ok (.bipush 12, 2) := by decide +kernel
theorem dX8_toldWorld_47 : decode cX8_toldWorld 47 = .ok (.iload_n 1, 1) := by decide +kernel
theorem dX8_toldWorld_48 : decode cX8_toldWorld 48 = .ok (.iadd, 1) := by decide +kernel
theorem dX8_toldWorld_49 : decode cX8_toldWorld 49 = .ok (.iaload, 1) := by decide +kernel
theorem dX8_toldWorld_50 : decode cX8_toldWorld 50 = .ok (.ireturn, 1) := by decide +kernel
theorem dX8_toldWorld_51 : decode cX8_toldWorld 51 = .ok (.aload_n 0, 1) := by decide +kernel
theorem dX8_toldWorld_52 : decode cX8_toldWorld 52 = .ok (.iconst 1, 1) := by decide +kernel
theorem dX8_toldWorld_53 : decode cX8_toldWorld 53 = .ok (.iload_n 1, 1) := by decide +kernel
theorem dX8_toldWorld_54 : decode cX8_toldWorld 54 = .ok (.ishl, 1) := by decide +kernel
theorem dX8_toldWorld_55 : decode cX8_toldWorld 55 = .ok (.invokevirtual 73, 3) := by decide +kernel
theorem dX8_toldWorld_58 : decode cX8_toldWorld 58 = .ok (.ireturn, 1) := by decide +kernel
theorem dX8_toldWorld_59 : decode cX8_toldWorld 59 = .ok (.aload_n 0, 1) := by decide +kernel
theorem dX8_toldWorld_60 : decode cX8_toldWorld 60 = .ok (.invokevirtual 85, 3) := by decide +kernel
theorem dX8_toldWorld_63 : decode cX8_toldWorld 63 = .ok (.iload_n 1, 1) := by decide +kernel
theorem dX8_toldWorld_64 : decode cX8_toldWorld 64 = .ok (.ishr, 1) := by decide +kernel
theorem dX8_toldWorld_65 : decode cX8_toldWorld 65 = .ok (.iconst 1, 1) := by decide +kernel
theorem dX8_toldWorld_66 : decode cX8_toldWorld 66 = .ok (.iand, 1) := by decide +kernel
theorem dX8_toldWorld_67 : decode cX8_toldWorld 67 = .ok (.ireturn, 1) := by decide +kernel
theorem dX8_toldWorld_68 : decode cX8_toldWorld 68 = .ok (.aload_n 0, 1) := by decide +kernel
theorem dX8_toldWorld_69 : decode cX8_toldWorld 69 = .ok (.iload_n 1, 1) := by decide +kernel
theorem dX8_toldWorld_70 : decode cX8_toldWorld 70 = .ok (.invokevirtual 147, 3) := by decide +kernel
theorem dX8_toldWorld_73 : decode cX8_toldWorld 73 = .ok (.ireturn, 1) := by decide +kernel
theorem dX8_world_0 : decode cX8_world 0 = .ok (.aload_n 0, 1) := by decide +kernel
theorem dX8_world_1 : decode cX8_world 1 = .ok (.aload_n 0, 1) := by decide +kernel
theorem dX8_world_2 : decode cX8_world 2 = .ok (.iload_n 1, 1) := by decide +kernel
theorem dX8_world_3 : decode cX8_world 3 = .ok (.invokevirtual 51, 3) := by decide +kernel
theorem dX8_world_6 : decode cX8_world 6 = .ok (.ifCond .ne 7, 3) := by decide +kernel
theorem dX8_world_9 : decode cX8_world 9 = .ok (.iconst 1, 1) := by decide +kernel
theorem dX8_world_10 : decode cX8_world 10 = .ok (.goto 17, 3) := by decide +kernel
theorem dX8_world_13 : decode cX8_world 13 = .ok (.iload_n 2, 1) := by decide +kernel
theorem dX8_world_14 : decode cX8_world 14 = .ok (.iconst 0, 1) := by decide +kernel
theorem dX8_world_15 : decode cX8_world 15 = .ok (.iconst 4, 1) := by decide +kernel
theorem dX8_world_16 : decode cX8_world 16 = .ok (.invokestatic 41, 3) := by decide +kernel
theorem dX8_world_19 : decode cX8_world 19 = .ok (.ifCond .eq 7, 3) := by decide +kernel
theorem dX8_world_22 : decode cX8_world 22 = .ok (.iconst 0, 1) := by decide +kernel
theorem dX8_world_23 : decode cX8_world 23 = .ok (.goto 4, 3) := by decide +kernel
theorem dX8_world_26 : decode cX8_world 26 = .ok (.iconst 2, 1) := by decide +kernel
theorem dX8_world_27 : decode cX8_world 27 = .ok (.putfield 37, 3) := by decide +kernel
theorem dX8_world_30 : decode cX8_world 30 = .ok (.aload_n 0, 1) := by decide +kernel
theorem dX8_world_31 : decode cX8_world 31 = .ok (.getfield 37, 3) := by decide +kernel
theorem dX8_world_34 : decode cX8_world 34 = .ok (.ifCond .le 7, 3) := by decide +kernel
theorem dX8_world_37 : decode cX8_world 37 = .ok (.iconst 0, 1) := by decide +kernel
theorem dX8_world_38 : decode cX8_world 38 = .ok (.goto 9, 3) := by decide +kernel
theorem dX8_world_41 : decode cX8_world 41 = .ok (.aload_n 0, 1) := by decide +kernel
theorem dX8_world_42 : decode cX8_world 42 = .ok (.iload_n 1, 1) := by decide +kernel
theorem dX8_world_43 : decode cX8_world 43 = .ok (.iload_n 2, 1) := by decide +kernel
theorem dX8_world_44 : decode cX8_world 44 = .ok (.invokevirtual 150, 3) := by decide +kernel
theorem dX8_world_47 : decode cX8_world 47 = .ok (.ireturn, 1) := by decide +kernel
theorem dX8_allRounds_0 : decode cX8_allRounds 0 = .ok (.iconst 0, 1) := by decide +kernel
theorem dX8_allRounds_1 : decode cX8_allRounds 1 = .ok (.istore_n 2, 1) := by decide +kernel
theorem dX8_allRounds_2 : decode cX8_allRounds 2 = .ok (.iconst 0, 1) := by decide +kernel
theorem dX8_allRounds_3 : decode cX8_allRounds 3 = .ok (.istore_n 3, 1) := by decide +kernel
theorem dX8_allRounds_4 : decode cX8_allRounds 4 = .ok (.iload_n 3, 1) := by decide +kernel
theorem dX8_allRounds_5 : decode cX8_allRounds 5 = .ok (.aload_n 0, 1) := by decide +kernel
theorem dX8_allRounds_6 : decode cX8_allRounds 6 = .ok (.iload_n 1, 1) := by decide +kernel
theorem dX8_allRounds_7 : decode cX8_allRounds 7 = .ok (.invokevirtual 101, 3) := by decide +kernel
theorem dX8_allRounds_10 : decode cX8_allRounds 10 = .ok (.if_icmp .ge 31, 3) := by decide +kernel
theorem dX8_allRounds_13 : decode cX8_allRounds 13 = .ok (.iload_n 2, 1) := by decide +kernel
theorem dX8_allRounds_14 : decode cX8_allRounds 14 = .ok (.aload_n 0, 1) := by decide +kernel
theorem dX8_allRounds_15 : decode cX8_allRounds 15 = .ok (.getfield 22, 3) := by decide +kernel
theorem dX8_allRounds_18 : decode cX8_allRounds 18 = .ok (.iload_n 3, 1) := by decide +kernel
theorem dX8_allRounds_19 : decode cX8_allRounds 19 = .ok (.iaload, 1) := by decide +kernel
theorem dX8_allRounds_20 : decode cX8_allRounds 20 = .ok (.ifCond .le 12, 3) := by decide +kernel
theorem dX8_allRounds_23 : decode cX8_allRounds 23 = .ok (.aload_n 0, 1) := by decide +kernel
theorem dX8_allRounds_24 : decode cX8_allRounds 24 = .ok (.getfield 22, 3) := by decide +kernel
theorem dX8_allRounds_27 : decode cX8_allRounds 27 = .ok (.iload_n 3, 1) := by decide +kernel
theorem dX8_allRounds_28 : decode cX8_allRounds 28 = .ok (.iaload, 1) := by decide +kernel
theorem dX8_allRounds_29 : decode cX8_allRounds 29 = .ok (.goto 4, 3) := by decide +kernel
theorem dX8_allRounds_32 : decode cX8_allRounds 32 = .ok (.iconst 0, 1) := by decide +kernel
theorem dX8_allRounds_33 : decode cX8_allRounds 33 = .ok (.iadd, 1) := by decide +kernel
theorem dX8_allRounds_34 : decode cX8_allRounds 34 = .ok (.istore_n 2, 1) := by decide +kernel
theorem dX8_allRounds_35 : decode cX8_allRounds 35 = .ok (.iinc 3 1, 3) := by decide +kernel
theorem dX8_allRounds_38 : decode cX8_allRounds 38 = .ok (.goto (-34), 3) := by decide +kernel
theorem dX8_allRounds_41 : decode cX8_allRounds 41 = .ok (.iload_n 2, 1) := by decide +kernel
theorem dX8_allRounds_42 : decode cX8_allRounds 42 = .ok (.ireturn, 1) := by decide +kernel
theorem dX8_toldWish_0 : decode cX8_toldWish 0 = .ok (.aload_n 0, 1) := by decide +kernel
theorem dX8_toldWish_1 : decode cX8_toldWish 1 = .ok (.iload_n 1, 1) := by decide +kernel
theorem dX8_toldWish_2 : decode cX8_toldWish 2 = .ok (.invokevirtual 101, 3) := by decide +kernel
theorem dX8_toldWish_5 : decode cX8_toldWish 5 = .ok (.ifCond .ne 5, 3) := by decide +kernel
theorem dX8_toldWish_8 : decode cX8_toldWish 8 = .ok (.iconst (-1), 1) := by decide +kernel
theorem dX8_toldWish_9 : decode cX8_toldWish 9 = .ok (.ireturn, 1) := by decide +kernel
theorem dX8_toldWish_10 : decode cX8_toldWish 10 = .ok (.aload_n 0, 1) := by decide +kernel
theorem dX8_toldWish_11 : decode cX8_toldWish 11 = .ok (.iload_n 1, 1) := by decide +kernel
theorem dX8_toldWish_12 : decode cX8_toldWish 12 = .ok (.invokevirtual 114, 3) := by decide +kernel
theorem dX8_toldWish_15 : decode cX8_toldWish 15 = .ok (.iload_n 2, 1) := by decide +kernel
theorem dX8_toldWish_16 : decode cX8_toldWish 16 = .ok (.ifCond .ne 11, 3) := by decide +kernel
theorem dX8_toldWish_19 : decode cX8_toldWish 19 = .ok (.aload_n 0, 1) := by decide +kernel
theorem dX8_toldWish_20 : decode cX8_toldWish 20 = .ok (.iload_n 1, 1) := by decide +kernel
theorem dX8_toldWish_21 : decode cX8_toldWish 21 = .ok (.invokevirtual 101, 3) := by decide +kernel
theorem dX8_toldWish_24 : decode cX8_toldWish 24 = .ok (.goto 36, 3) := by decide +kernel
theorem dX8_toldWish_27 : decode cX8_toldWish 27 = .ok (.iload_n 2, 1) := by decide +kernel
theorem dX8_toldWish_28 : decode cX8_toldWish 28 = .ok (.iconst 1, 1) := by decide +kernel
theorem dX8_toldWish_29 : decode cX8_toldWish 29 = .ok (.if_icmp .ne 12, 3) := by decide +kernel
theorem dX8_toldWish_32 : decode cX8_toldWish 32 = .ok (.aload_n 0, 1) := by decide +kernel
theorem dX8_toldWish_33 : decode cX8_toldWish 33 = .ok (.getfield 19, 3) := by decide +kernel
theorem dX8_toldWish_36 : decode cX8_toldWish 36 = .ok (.iconst 0, 1) := by decide +kernel
theorem dX8_toldWish_37 : decode cX8_toldWish 37 = .ok (.iaload, 1) := by decide +kernel
theorem dX8_toldWish_38 : decode cX8_toldWish 38 = .ok (.goto 22, 3) := by decide +kernel
theorem dX8_toldWish_41 : decode cX8_toldWish 41 = .ok (.iload_n 2, 1) := by decide +kernel
theorem dX8_toldWish_42 : decode cX8_toldWish 42 = .ok (.iconst 2, 1) := by decide +kernel
theorem dX8_toldWish_43 : decode cX8_toldWish 43 = .ok (.if_icmp .ne 11, 3) := by decide +kernel
theorem dX8_toldWish_46 : decode cX8_toldWish 46 = .ok (.aload_n 0, 1) := by decide +kernel
theorem dX8_toldWish_47 : decode cX8_toldWish 47 = .ok (.iload_n 1, 1) := by decide +kernel
theorem dX8_toldWish_48 : decode cX8_toldWish 48 = .ok (.invokevirtual 153, 3) := by decide +kernel
theorem dX8_toldWish_51 : decode cX8_toldWish 51 = .ok (.goto 9, 3) := by decide +kernel
theorem dX8_toldWish_54 : decode cX8_toldWish 54 = .ok (.aload_n 0, 1) := by decide +kernel
theorem dX8_toldWish_55 : decode cX8_toldWish 55 = .ok (.getfield 28, 3) := by decide +kernel
theorem dX8_toldWish_58 : decode cX8_toldWish 58 = .ok (.iconst 0, 1) := by decide +kernel
theorem dX8_toldWish_59 : decode cX8_toldWish 59 = .ok (.iaload, 1) := by decide +kernel
theorem dX8_toldWish_60 : decode cX8_toldWish 60 = .ok (.ireturn, 1) := by decide +kernel
theorem dX8_wish_0 : decode cX8_wish 0 = .ok (.aload_n 0, 1) := by decide +kernel
theorem dX8_wish_1 : decode cX8_wish 1 = .ok (.iload_n 1, 1) := by decide +kernel
theorem dX8_wish_2 : decode cX8_wish 2 = .ok (.invokestatic 134, 3) := by decide +kernel
theorem dX8_wish_5 : decode cX8_wish 5 = .ok (.ifCond .ne 7, 3) := by decide +kernel
theorem dX8_wish_8 : decode cX8_wish 8 = .ok (.iconst 1, 1) := by decide +kernel
theorem dX8_wish_9 : decode cX8_wish 9 = .ok (.goto 17, 3) := by decide +kernel
theorem dX8_wish_12 : decode cX8_wish 12 = .ok (.iload_n 2, 1) := by decide +kernel
theorem dX8_wish_13 : decode cX8_wish 13 = .ok (.iconst 0, 1) := by decide +kernel
theorem dX8_wish_14 : decode cX8_wish 14 = .ok (.iconst 3, 1) := by decide +kernel
theorem dX8_wish_15 : decode cX8_wish 15 = .ok (.invokestatic 41, 3) := by decide +kernel
theorem dX8_wish_18 : decode cX8_wish 18 = .ok (.ifCond .eq 7, 3) := by decide +kernel
theorem dX8_wish_21 : decode cX8_wish 21 = .ok (.iconst 0, 1) := by decide +kernel
theorem dX8_wish_22 : decode cX8_wish 22 = .ok (.goto 4, 3) := by decide +kernel
theorem dX8_wish_25 : decode cX8_wish 25 = .ok (.iconst 2, 1) := by decide +kernel
theorem dX8_wish_26 : decode cX8_wish 26 = .ok (.putfield 37, 3) := by decide +kernel
theorem dX8_wish_29 : decode cX8_wish 29 = .ok (.aload_n 0, 1) := by decide +kernel
theorem dX8_wish_30 : decode cX8_wish 30 = .ok (.getfield 37, 3) := by decide +kernel
theorem dX8_wish_33 : decode cX8_wish 33 = .ok (.ifCond .le 7, 3) := by decide +kernel
theorem dX8_wish_36 : decode cX8_wish 36 = .ok (.iconst 0, 1) := by decide +kernel
theorem dX8_wish_37 : decode cX8_wish 37 = .ok (.goto 9, 3) := by decide +kernel
theorem dX8_wish_40 : decode cX8_wish 40 = .ok (.aload_n 0, 1) := by decide +kernel
theorem dX8_wish_41 : decode cX8_wish 41 = .ok (.iload_n 1, 1) := by decide +kernel
theorem dX8_wish_42 : decode cX8_wish 42 = .ok (.iload_n 2, 1) := by decide +kernel
theorem dX8_wish_43 : decode cX8_wish 43 = .ok (.invokevirtual 156, 3) := by decide +kernel
theorem dX8_wish_46 : decode cX8_wish 46 = .ok (.ireturn, 1) := by decide +kernel
theorem dX8_toldSign_0 : decode cX8_toldSign 0 = .ok (.aload_n 0, 1) := by decide +kernel
theorem dX8_toldSign_1 : decode cX8_toldSign 1 = .ok (.iload_n 1, 1) := by decide +kernel
theorem dX8_toldSign_2 : decode cX8_toldSign 2 = .ok (.invokevirtual 114, 3) := by decide +kernel
theorem dX8_toldSign_5 : decode cX8_toldSign 5 = .ok (.iload_n 3, 1) := by decide +kernel
theorem dX8_toldSign_6 : decode cX8_toldSign 6 = .ok (.ifCond .ne 12, 3) := by decide +kernel
theorem dX8_toldSign_9 : decode cX8_toldSign 9 = .ok (.aload_n 0, 1) := by decide +kernel
theorem dX8_toldSign_10 : decode cX8_toldSign 10 = .ok (.iload_n 1, 1) := by decide +kernel
theorem dX8_toldSign_11 : decode cX8_toldSign 11 = .ok (.iload_n 2, 1) := by decide +kernel
theorem dX8_toldSign_12 : decode cX8_toldSign 12 = .ok (.invokevirtual 91, 3) := by decide +kernel
theorem dX8_toldSign_15 : decode cX8_toldSign 15 = .ok (.goto 37, 3) := by decide +kernel
theorem dX8_toldSign_18 : decode cX8_toldSign 18 = .ok (.iload_n 3, 1) := by decide +kernel
theorem dX8_toldSign_19 : decode cX8_toldSign 19 = .ok (.iconst 1, 1) := by decide +kernel
theorem dX8_toldSign_20 : decode cX8_toldSign 20 = .ok (.if_icmp .ne 12, 3) := by decide +kernel
theorem dX8_toldSign_23 : decode cX8_toldSign 23 = .ok (.aload_n 0, 1) := by decide +kernel
theorem dX8_toldSign_24 : decode cX8_toldSign 24 = .ok (.getfield 19, 3) := by decide +kernel
theorem dX8_toldSign_27 : decode cX8_toldSign 27 = .ok (.iload_n 2, 1) := by decide +kernel
theorem dX8_toldSign_28 : decode cX8_toldSign 28 = .ok (.iaload, 1) := by decide +kernel
theorem dX8_toldSign_29 : decode cX8_toldSign 29 = .ok (.goto 23, 3) := by decide +kernel
theorem dX8_toldSign_32 : decode cX8_toldSign 32 = .ok (.iload_n 3, 1) := by decide +kernel
theorem dX8_toldSign_33 : decode cX8_toldSign 33 = .ok (.iconst 2, 1) := by decide +kernel
theorem dX8_toldSign_34 : decode cX8_toldSign 34 = .ok (.if_icmp .ne 12, 3) := by decide +kernel
theorem dX8_toldSign_37 : decode cX8_toldSign 37 = .ok (.aload_n 0, 1) := by decide +kernel
theorem dX8_toldSign_38 : decode cX8_toldSign 38 = .ok (.getfield 22, 3) := by decide +kernel
theorem dX8_toldSign_41 : decode cX8_toldSign 41 = .ok (.iload_n 2, 1) := by decide +kernel
theorem dX8_toldSign_42 : decode cX8_toldSign 42 = .ok (.iaload, 1) := by decide +kernel
theorem dX8_toldSign_43 : decode cX8_toldSign 43 = .ok (.goto 9, 3) := by decide +kernel
theorem dX8_toldSign_46 : decode cX8_toldSign 46 = .ok (.aload_n 0, 1) := by decide +kernel
theorem dX8_toldSign_47 : decode cX8_toldSign 47 = .ok (.getfield 25, 3) := by decide +kernel
theorem dX8_toldSign_50 : decode cX8_toldSign 50 = .ok (.iload_n 2, 1) := by decide +kernel
theorem dX8_toldSign_51 : decode cX8_toldSign 51 = .ok (.iaload, 1) := by decide +kernel
theorem dX8_toldSign_52 : decode cX8_toldSign 52 = .ok (.ireturn, 1) := by decide +kernel
theorem dX8_sign_0 : decode cX8_sign 0 = .ok (.aload_n 0, 1) := by decide +kernel
theorem dX8_sign_1 : decode cX8_sign 1 = .ok (.iload_n 1, 1) := by decide +kernel
theorem dX8_sign_2 : decode cX8_sign 2 = .ok (.invokestatic 134, 3) := by decide +kernel
theorem dX8_sign_5 : decode cX8_sign 5 = .ok (.ifCond .eq 16, 3) := by decide +kernel
theorem dX8_sign_8 : decode cX8_sign 8 = .ok (.iload_n 2, 1) := by decide +kernel
theorem dX8_sign_9 : decode cX8_sign 9 = .ok (.ifCond .lt 12, 3) := by decide +kernel
theorem dX8_sign_12 : decode cX8_sign 12 = .ok (.iload_n 2, 1) := by decide +kernel
theorem dX8_sign_13 : decode cX8_sign 13 = .ok (.aload_n 0, 1) := by decide +kernel
theorem dX8_sign_14 : decode cX8_sign 14 = .ok (.iload_n 1, 1) := by decide +kernel
theorem dX8_sign_15 : decode cX8_sign 15 = .ok (.invokevirtual 101, 3) := by decide +kernel
theorem dX8_sign_18 : decode cX8_sign 18 = .ok (.if_icmp .lt 7, 3) := by decide +kernel
theorem dX8_sign_21 : decode cX8_sign 21 = .ok (.iconst 1, 1) := by decide +kernel
theorem dX8_sign_22 : decode cX8_sign 22 = .ok (.goto 17, 3) := by decide +kernel
theorem dX8_sign_25 : decode cX8_sign 25 = .ok (.iload_n 3, 1) := by decide +kernel
theorem dX8_sign_26 : decode cX8_sign 26 = .ok (.iconst 0, 1) := by decide +kernel
theorem dX8_sign_27 : decode cX8_sign 27 = .ok (.iconst 3, 1) := by decide +kernel
theorem dX8_sign_28 : decode cX8_sign 28 = .ok (.invokestatic 41, 3) := by decide +kernel
theorem dX8_sign_31 : decode cX8_sign 31 = .ok (.ifCond .eq 7, 3) := by decide +kernel
theorem dX8_sign_34 : decode cX8_sign 34 = .ok (.iconst 0, 1) := by decide +kernel
theorem dX8_sign_35 : decode cX8_sign 35 = .ok (.goto 4, 3) := by decide +kernel
theorem dX8_sign_38 : decode cX8_sign 38 = .ok (.iconst 2, 1) := by decide +kernel
theorem dX8_sign_39 : decode cX8_sign 39 = .ok (.putfield 37, 3) := by decide +kernel
theorem dX8_sign_42 : decode cX8_sign 42 = .ok (.aload_n 0, 1) := by decide +kernel
theorem dX8_sign_43 : decode cX8_sign 43 = .ok (.getfield 37, 3) := by decide +kernel
theorem dX8_sign_46 : decode cX8_sign 46 = .ok (.ifCond .le 7, 3) := by decide +kernel
theorem dX8_sign_49 : decode cX8_sign 49 = .ok (.iconst 0, 1) := by decide +kernel
theorem dX8_sign_50 : decode cX8_sign 50 = .ok (.goto 10, 3) := by decide +kernel
theorem dX8_sign_53 : decode cX8_sign 53 = .ok (.aload_n 0, 1) := by decide +kernel
theorem dX8_sign_54 : decode cX8_sign 54 = .ok (.iload_n 1, 1) := by decide +kernel
theorem dX8_sign_55 : decode cX8_sign 55 = .ok (.iload_n 2, 1) := by decide +kernel
theorem dX8_sign_56 : decode cX8_sign 56 = .ok (.iload_n 3, 1) := by decide +kernel
theorem dX8_sign_57 : decode cX8_sign 57 = .ok (.invokevirtual 159, 3) := by decide +kernel
theorem dX8_sign_60 : decode cX8_sign 60 = .ok (.ireturn, 1) := by decide +kernel
theorem dX8_goesTo_0 : decode cX8_goesTo 0 = .ok (.aload_n 0, 1) := by decide +kernel
theorem dX8_goesTo_1 : decode cX8_goesTo 1 = .ok (.getfield 31, 3) := by decide +kernel
theorem dX8_goesTo_4 : decode cX8_goesTo 4 = .ok (.aload_n 0, 1) := by decide +kernel
theorem dX8_goesTo_5 : decode cX8_goesTo 5 = .ok (.getfield 162, 3) := by decide +kernel
theorem dX8_goesTo_8 : decode cX8_goesTo 8 = .ok (.iload_n 1, 1) := by decide +kernel
theorem dX8_goesTo_9 : decode cX8_goesTo 9 = .ok (.iastore, 1) := by decide +kernel
theorem dX8_goesTo_10 : decode cX8_goesTo 10 = .ok (.aload_n 0, 1) := by decide +kernel
theorem dX8_goesTo_11 : decode cX8_goesTo 11 = .ok (.dup, 1) := by decide +kernel
theorem dX8_goesTo_12 : decode cX8_goesTo 12 = .ok (.getfield 162, 3) := by decide +kernel
theorem dX8_goesTo_15 : decode cX8_goesTo 15 = .ok (.iconst 1, 1) := by decide +kernel
theorem dX8_goesTo_16 : decode cX8_goesTo 16 = .ok (.iadd, 1) := by decide +kernel
theorem dX8_goesTo_17 : decode cX8_goesTo 17 = .ok (.putfield 162, 3) := by decide +kernel
theorem dX8_goesTo_20 : decode cX8_goesTo 20 = .ok (.return_, 1) := by decide +kernel
theorem dX8_layFar_0 : decode cX8_layFar 0 = .ok (.iconst 0, 1) := by decide +kernel
theorem dX8_layFar_1 : decode cX8_layFar 1 = .ok (.istore_n 3, 1) := by decide +kernel
theorem dX8_layFar_2 : decode cX8_layFar 2 = .ok (.iload_n 3, 1) := by decide +kernel
theorem dX8_layFar_3 : decode cX8_layFar 3 = .ok (.aload_n 0, 1) := by decide +kernel
theorem dX8_layFar_4 : decode cX8_layFar 4 = .ok (.getfield 7, 3) := by decide +kernel
theorem dX8_layFar_7 : decode cX8_layFar 7 = .ok (.iconst 0, 1) := by decide +kernel
theorem dX8_layFar_8 : decode cX8_layFar 8 = .ok (.iaload, 1) := by decide +kernel
theorem dX8_layFar_9 : decode cX8_layFar 9 = .ok (.if_icmp .ge 30, 3) := by decide +kernel
theorem dX8_layFar_12 : decode cX8_layFar 12 = .ok (.aload_n 0, 1) := by decide +kernel
theorem dX8_layFar_13 : decode cX8_layFar 13 = .ok (.getfield 34, 3) := by decide +kernel
theorem dX8_layFar_16 : decode cX8_layFar 16 = .ok (.iload_n 3, 1) := by decide +kernel
theorem dX8_layFar_17 : decode cX8_layFar 17 = .ok (.iload_n 2, 1) := by decide +kernel
theorem dX8_layFar_18 : decode cX8_layFar 18 = .ok (.iload_n 3, 1) := by decide +kernel
theorem dX8_layFar_19 : decode cX8_layFar 19 = .ok (.ishr, 1) := by decide +kernel
theorem dX8_layFar_20 : decode cX8_layFar 20 = .ok (.iconst 1, 1) := by decide +kernel
theorem dX8_layFar_21 : decode cX8_layFar 21 = .ok (.iand, 1) := by decide +kernel
theorem dX8_layFar_22 : decode cX8_layFar 22 = .ok (.iconst 1, 1) := by decide +kernel
theorem dX8_layFar_23 : decode cX8_layFar 23 = .ok (.if_icmp .ne 7, 3) := by decide +kernel
theorem dX8_layFar_26 : decode cX8_layFar 26 = .ok (.iconst 0, 1) := by decide +kernel
theorem dX8_layFar_27 : decode cX8_layFar 27 = .ok (.goto 5, 3) := by decide +kernel
theorem dX8_layFar_30 : decode cX8_layFar 30 = .ok (.bipush 99, 2) := by decide +kernel
theorem dX8_layFar_32 : decode cX8_layFar 32 = .ok (.iastore, 1) := by decide +kernel
theorem dX8_layFar_33 : decode cX8_layFar 33 = .ok (.iinc 3 1, 3) := by decide +kernel
theorem dX8_layFar_36 : decode cX8_layFar 36 = .ok (.goto (-34), 3) := by decide +kernel
theorem dX8_layFar_39 : decode cX8_layFar 39 = .ok (.iload_n 2, 1) := by decide +kernel
theorem dX8_layFar_40 : decode cX8_layFar 40 = .ok (.istore_n 3, 1) := by decide +kernel
theorem dX8_layFar_41 : decode cX8_layFar 41 = .ok (.iconst 1, 1) := by decide +kernel
theorem dX8_layFar_42 : decode cX8_layFar 42 = .ok (.istore 4, 2) := by decide +kernel
theorem dX8_layFar_44 : decode cX8_layFar 44 = .ok (.iload 4, 2) := by decide +kernel
theorem dX8_layFar_46 : decode cX8_layFar 46 = .ok (.bipush 10, 2) := by decide +kernel
theorem dX8_layFar_48 : decode cX8_layFar 48 = .ok (.if_icmp .gt 77, 3) := by decide +kernel
theorem dX8_layFar_51 : decode cX8_layFar 51 = .ok (.iload_n 1, 1) := by decide +kernel
theorem dX8_layFar_52 : decode cX8_layFar 52 = .ok (.aload_n 0, 1) := by decide +kernel
theorem dX8_layFar_53 : decode cX8_layFar 53 = .ok (.iload_n 3, 1) := by decide +kernel
theorem dX8_layFar_54 : decode cX8_layFar 54 = .ok (.invokevirtual 73, 3) := by decide +kernel
theorem dX8_layFar_57 : decode cX8_layFar 57 = .ok (.iand, 1) := by decide +kernel
theorem dX8_layFar_58 : decode cX8_layFar 58 = .ok (.iload_n 3, 1) := by decide +kernel
theorem dX8_layFar_59 : decode cX8_layFar 59 = .ok (.iconst (-1), 1) := by decide +kernel
theorem dX8_layFar_60 : decode cX8_layFar 60 = .ok (.ixor, 1) := by decide +kernel
theorem dX8_layFar_61 : decode cX8_layFar 61 = .ok (.iand, 1) := by decide +kernel
theorem dX8_layFar_62 : decode cX8_layFar 62 = .ok (.istore 5, 2) := by decide +kernel
theorem dX8_layFar_64 : decode cX8_layFar 64 = .ok (.iconst 0, 1) := by decide +kernel
theorem dX8_layFar_65 : decode cX8_layFar 65 = .ok (.istore 6, 2) := by decide +kernel
theorem dX8_layFar_67 : decode cX8_layFar 67 = .ok (.iload 6, 2) := by decide +kernel
theorem dX8_layFar_69 : decode cX8_layFar 69 = .ok (.aload_n 0, 1) := by decide +kernel
theorem dX8_layFar_70 : decode cX8_layFar 70 = .ok (.getfield 7, 3) := by decide +kernel
theorem dX8_layFar_73 : decode cX8_layFar 73 = .ok (.iconst 0, 1) := by decide +kernel
theorem dX8_layFar_74 : decode cX8_layFar 74 = .ok (.iaload, 1) := by decide +kernel
theorem dX8_layFar_75 : decode cX8_layFar 75 = .ok (.if_icmp .ge 39, 3) := by decide +kernel
theorem dX8_layFar_78 : decode cX8_layFar 78 = .ok (.aload_n 0, 1) := by decide +kernel
theorem dX8_layFar_79 : decode cX8_layFar 79 = .ok (.getfield 34, 3) := by decide +kernel
theorem dX8_layFar_82 : decode cX8_layFar 82 = .ok (.iload 6, 2) := by decide +kernel
theorem dX8_layFar_84 : decode cX8_layFar 84 = .ok (.iload 5, 2) := by decide +kernel
theorem dX8_layFar_86 : decode cX8_layFar 86 = .ok (.iload 6, 2) := by decide +kernel
theorem dX8_layFar_88 : decode cX8_layFar 88 = .ok (.ishr, 1) := by decide +kernel
theorem dX8_layFar_89 : decode cX8_layFar 89 = .ok (.iconst 1, 1) := by decide +kernel
theorem dX8_layFar_90 : decode cX8_layFar 90 = .ok (.iand, 1) := by decide +kernel
theorem dX8_layFar_91 : decode cX8_layFar 91 = .ok (.iconst 1, 1) := by decide +kernel
theorem dX8_layFar_92 : decode cX8_layFar 92 = .ok (.if_icmp .ne 8, 3) := by decide +kernel
theorem dX8_layFar_95 : decode cX8_layFar 95 = .ok (.iload 4, 2) := by decide +kernel
theorem dX8_layFar_97 : decode cX8_layFar 97 = .ok (.goto 10, 3) := by decide +kernel
theorem dX8_layFar_100 : decode cX8_layFar 100 = .ok (.aload_n 0, 1) := by decide +kernel
theorem dX8_layFar_101 : decode cX8_layFar 101 = .ok (.getfield 34, 3) := by decide +kernel
theorem dX8_layFar_104 : decode cX8_layFar 104 = .ok (.iload 6, 2) := by decide +kernel
theorem dX8_layFar_106 : decode cX8_layFar 106 = .ok (.iaload, 1) := by decide +kernel
theorem dX8_layFar_107 : decode cX8_layFar 107 = .ok (.iastore, 1) := by decide +kernel
theorem dX8_layFar_108 : decode cX8_layFar 108 = .ok (.iinc 6 1, 3) := by decide +kernel
theorem dX8_layFar_111 : decode cX8_layFar 111 = .ok (.goto (-44), 3) := by decide +kernel
theorem dX8_layFar_114 : decode cX8_layFar 114 = .ok (.iload_n 3, 1) := by decide +kernel
theorem dX8_layFar_115 : decode cX8_layFar 115 = .ok (.iload 5, 2) := by decide +kernel
theorem dX8_layFar_117 : decode cX8_layFar 117 = .ok (.ior, 1) := by decide +kernel
theorem dX8_layFar_118 : decode cX8_layFar 118 = .ok (.istore_n 3, 1) := by decide +kernel
theorem dX8_layFar_119 : decode cX8_layFar 119 = .ok (.iinc 4 1, 3) := by decide +kernel
theorem dX8_layFar_122 : decode cX8_layFar 122 = .ok (.goto (-78), 3) := by decide +kernel
theorem dX8_layFar_125 : decode cX8_layFar 125 = .ok (.return_, 1) := by decide +kernel
theorem dX8_nextOf_0 : decode cX8_nextOf 0 = .ok (.iconst (-1), 1) := by decide +kernel
theorem dX8_nextOf_1 : decode cX8_nextOf 1 = .ok (.istore_n 3, 1) := by decide +kernel
theorem dX8_nextOf_2 : decode cX8_nextOf 2 = .ok (.iconst 0, 1) := by decide +kernel
theorem dX8_nextOf_3 : decode cX8_nextOf 3 = .ok (.istore 4, 2) := by decide +kernel
theorem dX8_nextOf_5 : decode cX8_nextOf 5 = .ok (.iload 4, 2) := by decide +kernel
theorem dX8_nextOf_7 : decode cX8_nextOf 7 = .ok (.aload_n 0, 1) := by decide +kernel
theorem dX8_nextOf_8 : decode cX8_nextOf 8 = .ok (.getfield 7, 3) := by decide +kernel
theorem dX8_nextOf_11 : decode cX8_nextOf 11 = .ok (.iconst 0, 1) := by decide +kernel
theorem dX8_nextOf_12 : decode cX8_nextOf 12 = .ok (.iaload, 1) := by decide +kernel
theorem dX8_nextOf_13 : decode cX8_nextOf 13 = .ok (.if_icmp .ge 89, 3) := by decide +kernel
theorem dX8_nextOf_16 : decode cX8_nextOf 16 = .ok (.aload_n 0, 1) := by decide +kernel
theorem dX8_nextOf_17 : decode cX8_nextOf 17 = .ok (.getfield 7, 3) := by decide +kernel
theorem dX8_nextOf_20 : decode cX8_nextOf 20 = .ok (.bipush 12, 2) := by decide +kernel
theorem dX8_nextOf_22 : decode cX8_nextOf 22 = .ok (.iload_n 1, 1) := by decide +kernel
theorem dX8_nextOf_23 : decode cX8_nextOf 23 = .ok (.iadd, 1) := by decide +kernel
theorem dX8_nextOf_24 : decode cX8_nextOf 24 = .ok (.iaload, 1) := by decide +kernel
theorem dX8_nextOf_25 : decode cX8_nextOf 25 = .ok (.iload 4, 2) := by decide +kernel
theorem dX8_nextOf_27 : decode cX8_nextOf 27 = .ok (.ishr, 1) := by decide +kernel
theorem dX8_nextOf_28 : decode cX8_nextOf 28 = .ok (.iconst 1, 1) := by decide +kernel
theorem dX8_nextOf_29 : decode cX8_nextOf 29 = .ok (.iand, 1) := by decide +kernel
theorem dX8_nextOf_30 : decode cX8_nextOf 30 = .ok (.iconst 1, 1) := by decide +kernel
theorem dX8_nextOf_31 : decode cX8_nextOf 31 = .ok (.if_icmp .ne 29, 3) := by decide +kernel
theorem dX8_nextOf_34 : decode cX8_nextOf 34 = .ok (.iload_n 2, 1) := by decide +kernel
theorem dX8_nextOf_35 : decode cX8_nextOf 35 = .ok (.iload 4, 2) := by decide +kernel
theorem dX8_nextOf_37 : decode cX8_nextOf 37 = .ok (.ishr, 1) := by decide +kernel
theorem dX8_nextOf_38 : decode cX8_nextOf 38 = .ok (.iconst 1, 1) := by decide +kernel
theorem dX8_nextOf_39 : decode cX8_nextOf 39 = .ok (.iand, 1) := by decide +kernel
theorem dX8_nextOf_40 : decode cX8_nextOf 40 = .ok (.iconst 1, 1) := by decide +kernel
theorem dX8_nextOf_41 : decode cX8_nextOf 41 = .ok (.if_icmp .ne 19, 3) := by decide +kernel
theorem dX8_nextOf_44 : decode cX8_nextOf 44 = .ok (.aload_n 0, 1) := by decide +kernel
theorem dX8_nextOf_45 : decode cX8_nextOf 45 = .ok (.getfield 34, 3) := by decide +kernel
theorem dX8_nextOf_48 : decode cX8_nextOf 48 = .ok (.iload 4, 2) := by decide +kernel
theorem dX8_nextOf_50 : decode cX8_nextOf 50 = .ok (.iaload, 1) := by decide +kernel
theorem dX8_nextOf_51 : decode cX8_nextOf 51 = .ok (.bipush 99, 2) := by decide +kernel
theorem dX8_nextOf_53 : decode cX8_nextOf 53 = .ok (.if_icmp .ge 7, 3) := by decide +kernel
theorem dX8_nextOf_56 : decode cX8_nextOf 56 = .ok (.iconst 1, 1) := by decide +kernel
theorem dX8_nextOf_57 : decode cX8_nextOf 57 = .ok (.goto 4, 3) := by decide +kernel
theorem dX8_nextOf_60 : decode cX8_nextOf 60 = .ok (.iconst 0, 1) := by decide +kernel
theorem dX8_nextOf_61 : decode cX8_nextOf 61 = .ok (.istore 5, 2) := by decide +kernel
theorem dX8_nextOf_63 : decode cX8_nextOf 63 = .ok (.iload 5, 2) := by decide +kernel
theorem dX8_nextOf_65 : decode cX8_nextOf 65 = .ok (.ifCond .eq 29, 3) := by decide +kernel
theorem dX8_nextOf_68 : decode cX8_nextOf 68 = .ok (.iload_n 3, 1) := by decide +kernel
theorem dX8_nextOf_69 : decode cX8_nextOf 69 = .ok (.iconst (-1), 1) := by decide +kernel
theorem dX8_nextOf_70 : decode cX8_nextOf 70 = .ok (.if_icmp .eq 19, 3) := by decide +kernel
theorem dX8_nextOf_73 : decode cX8_nextOf 73 = .ok (.aload_n 0, 1) := by decide +kernel
theorem dX8_nextOf_74 : decode cX8_nextOf 74 = .ok (.getfield 34, 3) := by decide +kernel
theorem dX8_nextOf_77 : decode cX8_nextOf 77 = .ok (.iload 4, 2) := by decide +kernel
theorem dX8_nextOf_79 : decode cX8_nextOf 79 = .ok (.iaload, 1) := by decide +kernel
theorem dX8_nextOf_80 : decode cX8_nextOf 80 = .ok (.aload_n 0, 1) := by decide +kernel
theorem dX8_nextOf_81 : decode cX8_nextOf 81 = .ok (.getfield 34, 3) := by decide +kernel
theorem dX8_nextOf_84 : decode cX8_nextOf 84 = .ok (.iload_n 3, 1) := by decide +kernel
theorem dX8_nextOf_85 : decode cX8_nextOf 85 = .ok (.iaload, 1) := by decide +kernel
theorem dX8_nextOf_86 : decode cX8_nextOf 86 = .ok (.if_icmp .ge 8, 3) := by decide +kernel
theorem dX8_nextOf_89 : decode cX8_nextOf 89 = .ok (.iload 4, 2) := by decide +kernel
theorem dX8_nextOf_91 : decode cX8_nextOf 91 = .ok (.goto 4, 3) := by decide +kernel
theorem dX8_nextOf_94 : decode cX8_nextOf 94 = .ok (.iload_n 3, 1) := by decide +kernel
theorem dX8_nextOf_95 : decode cX8_nextOf 95 = .ok (.istore_n 3, 1) := by decide +kernel
theorem dX8_nextOf_96 : decode cX8_nextOf 96 = .ok (.iinc 4 1, 3) := by decide +kernel
theorem dX8_nextOf_99 : decode cX8_nextOf 99 = .ok (.goto (-94), 3) := by decide +kernel
theorem dX8_nextOf_102 : decode cX8_nextOf 102 = .ok (.iload_n 3, 1) := by decide +kernel
theorem dX8_nextOf_103 : decode cX8_nextOf 103 = .ok (.ireturn, 1) := by decide +kernel
theorem dX8_layComing_0 : decode cX8_layComing 0 = .ok (.aload_n 0, 1) := by decide +kernel
theorem dX8_layComing_1 : decode cX8_layComing 1 = .ok (.iload_n 2, 1) := by decide +kernel
theorem dX8_layComing_2 : decode cX8_layComing 2 = .ok (.iload_n 3, 1) := by decide +kernel
theorem dX8_layComing_3 : decode cX8_layComing 3 = .ok (.invokevirtual 165, 3) := by decide +kernel
theorem dX8_layComing_6 : decode cX8_layComing 6 = .ok (.iload_n 1, 1) := by decide +kernel
theorem dX8_layComing_7 : decode cX8_layComing 7 = .ok (.istore 4, 2) := by decide +kernel
theorem dX8_layComing_9 : decode cX8_layComing 9 = .ok (.aload_n 0, 1) := by decide +kernel
theorem dX8_layComing_10 : decode cX8_layComing 10 = .ok (.iload 4, 2) := by decide +kernel
theorem dX8_layComing_12 : decode cX8_layComing 12 = .ok (.invokevirtual 168, 3) := by decide +kernel
theorem dX8_layComing_15 : decode cX8_layComing 15 = .ok (.aload_n 0, 1) := by decide +kernel
theorem dX8_layComing_16 : decode cX8_layComing 16 = .ok (.getfield 34, 3) := by decide +kernel
theorem dX8_layComing_19 : decode cX8_layComing 19 = .ok (.iload 4, 2) := by decide +kernel
theorem dX8_layComing_21 : decode cX8_layComing 21 = .ok (.iaload, 1) := by decide +kernel
theorem dX8_layComing_22 : decode cX8_layComing 22 = .ok (.ifCond .le 24, 3) := by decide +kernel
theorem dX8_layComing_25 : decode cX8_layComing 25 = .ok (.aload_n 0, 1) := by decide +kernel
theorem dX8_layComing_26 : decode cX8_layComing 26 = .ok (.iload 4, 2) := by decide +kernel
theorem dX8_layComing_28 : decode cX8_layComing 28 = .ok (.aload_n 0, 1) := by decide +kernel
theorem dX8_layComing_29 : decode cX8_layComing 29 = .ok (.invokevirtual 79, 3) := by decide +kernel
theorem dX8_layComing_32 : decode cX8_layComing 32 = .ok (.invokevirtual 171, 3) := by decide +kernel
theorem dX8_layComing_35 : decode cX8_layComing 35 = .ok (.istore 4, 2) := by decide +kernel
theorem dX8_layComing_37 : decode cX8_layComing 37 = .ok (.aload_n 0, 1) := by decide +kernel
theorem dX8_layComing_38 : decode cX8_layComing 38 = .ok (.iload 4, 2) := by decide +kernel
theorem dX8_layComing_40 : decode cX8_layComing 40 = .ok (.invokevirtual 168, 3) := by decide +kernel
theorem dX8_layComing_43 : decode cX8_layComing 43 = .ok (.goto (-28), 3) := by decide +kernel
theorem dX8_layComing_46 : decode cX8_layComing 46 = .ok (.return_, 1) := by decide +kernel
theorem dX8_layStaying_0 : decode cX8_layStaying 0 = .ok (.aload_n 0, 1) := by decide +kernel
theorem dX8_layStaying_1 : decode cX8_layStaying 1 = .ok (.iload_n 2, 1) := by decide +kernel
theorem dX8_layStaying_2 : decode cX8_layStaying 2 = .ok (.invokevirtual 70, 3) := by decide +kernel
theorem dX8_layStaying_5 : decode cX8_layStaying 5 = .ok (.istore_n 3, 1) := by decide +kernel
theorem dX8_layStaying_6 : decode cX8_layStaying 6 = .ok (.iconst 0, 1) := by decide +kernel
theorem dX8_layStaying_7 : decode cX8_layStaying 7 = .ok (.istore 4, 2) := by decide +kernel
theorem dX8_layStaying_9 : decode cX8_layStaying 9 = .ok (.iload_n 1, 1) := by decide +kernel
theorem dX8_layStaying_10 : decode cX8_layStaying 10 = .ok (.istore 5, 2) := by decide +kernel
theorem dX8_layStaying_12 : decode cX8_layStaying 12 = .ok (.iconst 1, 1) := by decide +kernel
theorem dX8_layStaying_13 : decode cX8_layStaying 13 = .ok (.istore 6, 2) := by decide +kernel
theorem dX8_layStaying_15 : decode cX8_layStaying 15 = .ok (.aload_n 0, 1) := by decide +kernel
theorem dX8_layStaying_16 : decode cX8_layStaying 16 = .ok (.iload_n 2, 1) := by decide +kernel
theorem dX8_layStaying_17 : decode cX8_layStaying 17 = .ok (.iload_n 3, 1) := by decide +kernel
theorem dX8_layStaying_18 : decode cX8_layStaying 18 = .ok (.invokevirtual 165, 3) := by decide +kernel
theorem dX8_layStaying_21 : decode cX8_layStaying 21 = .ok (.aload_n 0, 1) := by decide +kernel
theorem dX8_layStaying_22 : decode cX8_layStaying 22 = .ok (.iload 5, 2) := by decide +kernel
theorem dX8_layStaying_24 : decode cX8_layStaying 24 = .ok (.invokevirtual 168, 3) := by decide +kernel
theorem dX8_layStaying_27 : decode cX8_layStaying 27 = .ok (.iload 6, 2) := by decide +kernel
theorem dX8_layStaying_29 : decode cX8_layStaying 29 = .ok (.ifCond .eq 57, 3) := by decide +kernel
theorem dX8_layStaying_32 : decode cX8_layStaying 32 = .ok (.aload_n 0, 1) := by decide +kernel
theorem dX8_layStaying_33 : decode cX8_layStaying 33 = .ok (.iload 5, 2) := by decide +kernel
theorem dX8_layStaying_35 : decode cX8_layStaying 35 = .ok (.iload_n 2, 1) := by decide +kernel
theorem dX8_layStaying_36 : decode cX8_layStaying 36 = .ok (.invokevirtual 171, 3) := by decide +kernel
theorem dX8_layStaying_39 : decode cX8_layStaying 39 = .ok (.istore 5, 2) := by decide +kernel
theorem dX8_layStaying_41 : decode cX8_layStaying 41 = .ok (.aload_n 0, 1) := by decide +kernel
theorem dX8_layStaying_42 : decode cX8_layStaying 42 = .ok (.iload 5, 2) := by decide +kernel
theorem dX8_layStaying_44 : decode cX8_layStaying 44 = .ok (.invokevirtual 168, 3) := by decide +kernel
theorem dX8_layStaying_47 : decode cX8_layStaying 47 = .ok (.iload_n 3, 1) := by decide +kernel
theorem dX8_layStaying_48 : decode cX8_layStaying 48 = .ok (.iload 5, 2) := by decide +kernel
theorem dX8_layStaying_50 : decode cX8_layStaying 50 = .ok (.ishr, 1) := by decide +kernel
theorem dX8_layStaying_51 : decode cX8_layStaying 51 = .ok (.iconst 1, 1) := by decide +kernel
theorem dX8_layStaying_52 : decode cX8_layStaying 52 = .ok (.iand, 1) := by decide +kernel
theorem dX8_layStaying_53 : decode cX8_layStaying 53 = .ok (.iconst 1, 1) := by decide +kernel
theorem dX8_layStaying_54 : decode cX8_layStaying 54 = .ok (.if_icmp .ne (-27), 3) := by decide +kernel
theorem dX8_layStaying_57 : decode cX8_layStaying 57 = .ok (.iload 4, 2) := by decide +kernel
theorem dX8_layStaying_59 : decode cX8_layStaying 59 = .ok (.iload 5, 2) := by decide +kernel
theorem dX8_layStaying_61 : decode cX8_layStaying 61 = .ok (.ishr, 1) := by decide +kernel
theorem dX8_layStaying_62 : decode cX8_layStaying 62 = .ok (.iconst 1, 1) := by decide +kernel
theorem dX8_layStaying_63 : decode cX8_layStaying 63 = .ok (.iand, 1) := by decide +kernel
theorem dX8_layStaying_64 : decode cX8_layStaying 64 = .ok (.ifCond .ne 7, 3) := by decide +kernel
theorem dX8_layStaying_67 : decode cX8_layStaying 67 = .ok (.iconst 1, 1) := by decide +kernel
theorem dX8_layStaying_68 : decode cX8_layStaying 68 = .ok (.goto 4, 3) := by decide +kernel
theorem dX8_layStaying_71 : decode cX8_layStaying 71 = .ok (.iconst 0, 1) := by decide +kernel
theorem dX8_layStaying_72 : decode cX8_layStaying 72 = .ok (.istore 6, 2) := by decide +kernel
theorem dX8_layStaying_74 : decode cX8_layStaying 74 = .ok (.iload 4, 2) := by decide +kernel
theorem dX8_layStaying_76 : decode cX8_layStaying 76 = .ok (.iconst 1, 1) := by decide +kernel
theorem dX8_layStaying_77 : decode cX8_layStaying 77 = .ok (.iload 5, 2) := by decide +kernel
theorem dX8_layStaying_79 : decode cX8_layStaying 79 = .ok (.ishl, 1) := by decide +kernel
theorem dX8_layStaying_80 : decode cX8_layStaying 80 = .ok (.ior, 1) := by decide +kernel
theorem dX8_layStaying_81 : decode cX8_layStaying 81 = .ok (.istore 4, 2) := by decide +kernel
theorem dX8_layStaying_83 : decode cX8_layStaying 83 = .ok (.goto (-56), 3) := by decide +kernel
theorem dX8_layStaying_86 : decode cX8_layStaying 86 = .ok (.return_, 1) := by decide +kernel
theorem dX8_layNext_0 : decode cX8_layNext 0 = .ok (.aload_n 0, 1) := by decide +kernel
theorem dX8_layNext_1 : decode cX8_layNext 1 = .ok (.getfield 7, 3) := by decide +kernel
theorem dX8_layNext_4 : decode cX8_layNext 4 = .ok (.bipush 12, 2) := by decide +kernel
theorem dX8_layNext_6 : decode cX8_layNext 6 = .ok (.iload_n 1, 1) := by decide +kernel
theorem dX8_layNext_7 : decode cX8_layNext 7 = .ok (.iadd, 1) := by decide +kernel
theorem dX8_layNext_8 : decode cX8_layNext 8 = .ok (.iaload, 1) := by decide +kernel
theorem dX8_layNext_9 : decode cX8_layNext 9 = .ok (.aload_n 0, 1) := by decide +kernel
theorem dX8_layNext_10 : decode cX8_layNext 10 = .ok (.invokevirtual 85, 3) := by decide +kernel
theorem dX8_layNext_13 : decode cX8_layNext 13 = .ok (.iand, 1) := by decide +kernel
theorem dX8_layNext_14 : decode cX8_layNext 14 = .ok (.iload_n 2, 1) := by decide +kernel
theorem dX8_layNext_15 : decode cX8_layNext 15 = .ok (.iand, 1) := by decide +kernel
theorem dX8_layNext_16 : decode cX8_layNext 16 = .ok (.istore_n 3, 1) := by decide +kernel
theorem dX8_layNext_17 : decode cX8_layNext 17 = .ok (.iconst 0, 1) := by decide +kernel
theorem dX8_layNext_18 : decode cX8_layNext 18 = .ok (.istore 4, 2) := by decide +kernel
theorem dX8_layNext_20 : decode cX8_layNext 20 = .ok (.iload_n 3, 1) := by decide +kernel
theorem dX8_layNext_21 : decode cX8_layNext 21 = .ok (.iload 4, 2) := by decide +kernel
theorem dX8_layNext_23 : decode cX8_layNext 23 = .ok (.ishr, 1) := by decide +kernel
theorem dX8_layNext_24 : decode cX8_layNext 24 = .ok (.iconst 1, 1) := by decide +kernel
theorem dX8_layNext_25 : decode cX8_layNext 25 = .ok (.iand, 1) := by decide +kernel
theorem dX8_layNext_26 : decode cX8_layNext 26 = .ok (.ifCond .ne 9, 3) := by decide +kernel
theorem dX8_layNext_29 : decode cX8_layNext 29 = .ok (.iinc 4 1, 3) := by decide +kernel
theorem dX8_layNext_32 : decode cX8_layNext 32 = .ok (.goto (-12), 3) := by decide +kernel
theorem dX8_layNext_35 : decode cX8_layNext 35 = .ok (.aload_n 0, 1) := by decide +kernel
theorem dX8_layNext_36 : decode cX8_layNext 36 = .ok (.iload_n 1, 1) := by decide +kernel
theorem dX8_layNext_37 : decode cX8_layNext 37 = .ok (.invokevirtual 168, 3) := by decide +kernel
theorem dX8_layNext_40 : decode cX8_layNext 40 = .ok (.aload_n 0, 1) := by decide +kernel
theorem dX8_layNext_41 : decode cX8_layNext 41 = .ok (.iload 4, 2) := by decide +kernel
theorem dX8_layNext_43 : decode cX8_layNext 43 = .ok (.invokevirtual 168, 3) := by decide +kernel
theorem dX8_layNext_46 : decode cX8_layNext 46 = .ok (.return_, 1) := by decide +kernel
theorem dX8_laySome_0 : decode cX8_laySome 0 = .ok (.iload_n 2, 1) := by decide +kernel
theorem dX8_laySome_1 : decode cX8_laySome 1 = .ok (.bipush 88, 2) := by decide +kernel
theorem dX8_laySome_3 : decode cX8_laySome 3 = .ok (.if_icmp .ne 12, 3) := by decide +kernel
theorem dX8_laySome_6 : decode cX8_laySome 6 = .ok (.aload_n 0, 1) := by decide +kernel
theorem dX8_laySome_7 : decode cX8_laySome 7 = .ok (.iload_n 1, 1) := by decide +kernel
theorem dX8_laySome_8 : decode cX8_laySome 8 = .ok (.iload_n 3, 1) := by decide +kernel
theorem dX8_laySome_9 : decode cX8_laySome 9 = .ok (.invokevirtual 174, 3) := by decide +kernel
theorem dX8_laySome_12 : decode cX8_laySome 12 = .ok (.goto 59, 3) := by decide +kernel
theorem dX8_laySome_15 : decode cX8_laySome 15 = .ok (.iload_n 2, 1) := by decide +kernel
theorem dX8_laySome_16 : decode cX8_laySome 16 = .ok (.bipush 70, 2) := by decide +kernel
theorem dX8_laySome_18 : decode cX8_laySome 18 = .ok (.if_icmp .ne 21, 3) := by decide +kernel
theorem dX8_laySome_21 : decode cX8_laySome 21 = .ok (.aload_n 0, 1) := by decide +kernel
theorem dX8_laySome_22 : decode cX8_laySome 22 = .ok (.iload_n 1, 1) := by decide +kernel
theorem dX8_laySome_23 : decode cX8_laySome 23 = .ok (.aload_n 0, 1) := by decide +kernel
theorem dX8_laySome_24 : decode cX8_laySome 24 = .ok (.invokevirtual 79, 3) := by decide +kernel
theorem dX8_laySome_27 : decode cX8_laySome 27 = .ok (.aload_n 0, 1) := by decide +kernel
theorem dX8_laySome_28 : decode cX8_laySome 28 = .ok (.invokevirtual 85, 3) := by decide +kernel
theorem dX8_laySome_31 : decode cX8_laySome 31 = .ok (.iload_n 3, 1) := by decide +kernel
theorem dX8_laySome_32 : decode cX8_laySome 32 = .ok (.iand, 1) := by decide +kernel
theorem dX8_laySome_33 : decode cX8_laySome 33 = .ok (.invokevirtual 177, 3) := by decide +kernel
theorem dX8_laySome_36 : decode cX8_laySome 36 = .ok (.goto 35, 3) := by decide +kernel
theorem dX8_laySome_39 : decode cX8_laySome 39 = .ok (.iload_n 2, 1) := by decide +kernel
theorem dX8_laySome_40 : decode cX8_laySome 40 = .ok (.bipush 71, 2) := by decide +kernel
theorem dX8_laySome_42 : decode cX8_laySome 42 = .ok (.if_icmp .ne 16, 3) := by decide +kernel
theorem dX8_laySome_45 : decode cX8_laySome 45 = .ok (.aload_n 0, 1) := by decide +kernel
theorem dX8_laySome_46 : decode cX8_laySome 46 = .ok (.iload_n 1, 1) := by decide +kernel
theorem dX8_laySome_47 : decode cX8_laySome 47 = .ok (.aload_n 0, 1) := by decide +kernel
theorem dX8_laySome_48 : decode cX8_laySome 48 = .ok (.iload_n 3, 1) := by decide +kernel
theorem dX8_laySome_49 : decode cX8_laySome 49 = .ok (.invokevirtual 82, 3) := by decide +kernel
theorem dX8_laySome_52 : decode cX8_laySome 52 = .ok (.invokevirtual 181, 3) := by decide +kernel
theorem dX8_laySome_55 : decode cX8_laySome 55 = .ok (.goto 16, 3) := by decide +kernel
theorem dX8_laySome_58 : decode cX8_laySome 58 = .ok (.aload_n 0, 1) := by decide +kernel
theorem dX8_laySome_59 : decode cX8_laySome 59 = .ok (.iload_n 1, 1) := by decide +kernel
theorem dX8_laySome_60 : decode cX8_laySome 60 = .ok (.iload_n 3, 1) := by decide +kernel
theorem dX8_laySome_61 : decode cX8_laySome 61 = .ok (.aload_n 0, 1) := by decide +kernel
theorem dX8_laySome_62 : decode cX8_laySome 62 = .ok (.invokevirtual 85, 3) := by decide +kernel
theorem dX8_laySome_65 : decode cX8_laySome 65 = .ok (.iload 4, 2) := by decide +kernel
theorem dX8_laySome_67 : decode cX8_laySome 67 = .ok (.iand, 1) := by decide +kernel
theorem dX8_laySome_68 : decode cX8_laySome 68 = .ok (.invokevirtual 177, 3) := by decide +kernel
theorem dX8_laySome_71 : decode cX8_laySome 71 = .ok (.return_, 1) := by decide +kernel
theorem dX8_layAgainst_0 : decode cX8_layAgainst 0 = .ok (.aload_n 0, 1) := by decide +kernel
theorem dX8_layAgainst_1 : decode cX8_layAgainst 1 = .ok (.invokevirtual 79, 3) := by decide +kernel
theorem dX8_layAgainst_4 : decode cX8_layAgainst 4 = .ok (.iload_n 3, 1) := by decide +kernel
theorem dX8_layAgainst_5 : decode cX8_layAgainst 5 = .ok (.iconst (-1), 1) := by decide +kernel
theorem dX8_layAgainst_6 : decode cX8_layAgainst 6 = .ok (.ixor, 1) := by decide +kernel
theorem dX8_layAgainst_7 : decode cX8_layAgainst 7 = .ok (.iand, 1) := by decide +kernel
theorem dX8_layAgainst_8 : decode cX8_layAgainst 8 = .ok (.istore 5, 2) := by decide +kernel
theorem dX8_layAgainst_10 : decode cX8_layAgainst 10 = .ok (.aload_n 0, 1) := by decide +kernel
theorem dX8_layAgainst_11 : decode cX8_layAgainst 11 = .ok (.invokevirtual 79, 3) := by decide +kernel
theorem dX8_layAgainst_14 : decode cX8_layAgainst 14 = .ok (.iload 4, 2) := by decide +kernel
theorem dX8_layAgainst_16 : decode cX8_layAgainst 16 = .ok (.iconst (-1), 1) := by decide +kernel
theorem dX8_layAgainst_17 : decode cX8_layAgainst 17 = .ok (.ixor, 1) := by decide +kernel
theorem dX8_layAgainst_18 : decode cX8_layAgainst 18 = .ok (.iand, 1) := by decide +kernel
theorem dX8_layAgainst_19 : decode cX8_layAgainst 19 = .ok (.istore 6, 2) := by decide +kernel
theorem dX8_layAgainst_21 : decode cX8_layAgainst 21 = .ok (.iload_n 2, 1) := by decide +kernel
theorem dX8_layAgainst_22 : decode cX8_layAgainst 22 = .ok (.bipush 88, 2) := by decide +kernel
theorem dX8_layAgainst_24 : decode cX8_layAgainst 24 = .ok (.if_icmp .ne 13, 3) := by decide +kernel
theorem dX8_layAgainst_27 : decode cX8_layAgainst 27 = .ok (.aload_n 0, 1) := by decide +kernel
theorem dX8_layAgainst_28 : decode cX8_layAgainst 28 = .ok (.iload_n 1, 1) := by decide +kernel
theorem dX8_layAgainst_29 : decode cX8_layAgainst 29 = .ok (.iload 5, 2) := by decide +kernel
theorem dX8_layAgainst_31 : decode cX8_layAgainst 31 = .ok (.invokevirtual 174, 3) := by decide +kernel
theorem dX8_layAgainst_34 : decode cX8_layAgainst 34 = .ok (.goto 98, 3) := by decide +kernel
theorem dX8_layAgainst_37 : decode cX8_layAgainst 37 = .ok (.iload_n 2, 1) := by decide +kernel
theorem dX8_layAgainst_38 : decode cX8_layAgainst 38 = .ok (.bipush 70, 2) := by decide +kernel
theorem dX8_layAgainst_40 : decode cX8_layAgainst 40 = .ok (.if_icmp .ne 17, 3) := by decide +kernel
theorem dX8_layAgainst_43 : decode cX8_layAgainst 43 = .ok (.aload_n 0, 1) := by decide +kernel
theorem dX8_layAgainst_44 : decode cX8_layAgainst 44 = .ok (.iload_n 1, 1) := by decide +kernel
theorem dX8_layAgainst_45 : decode cX8_layAgainst 45 = .ok (.aload_n 0, 1) := by decide +kernel
theorem dX8_layAgainst_46 : decode cX8_layAgainst 46 = .ok (.iload 5, 2) := by decide +kernel
theorem dX8_layAgainst_48 : decode cX8_layAgainst 48 = .ok (.invokevirtual 82, 3) := by decide +kernel
theorem dX8_layAgainst_51 : decode cX8_layAgainst 51 = .ok (.invokevirtual 181, 3) := by decide +kernel
theorem dX8_layAgainst_54 : decode cX8_layAgainst 54 = .ok (.goto 78, 3) := by decide +kernel
theorem dX8_layAgainst_57 : decode cX8_layAgainst 57 = .ok (.iload_n 2, 1) := by decide +kernel
theorem dX8_layAgainst_58 : decode cX8_layAgainst 58 = .ok (.bipush 71, 2) := by decide +kernel
theorem dX8_layAgainst_60 : decode cX8_layAgainst 60 = .ok (.if_icmp .ne 22, 3) := by decide +kernel
theorem dX8_layAgainst_63 : decode cX8_layAgainst 63 = .ok (.aload_n 0, 1) := by decide +kernel
theorem dX8_layAgainst_64 : decode cX8_layAgainst 64 = .ok (.iload_n 1, 1) := by decide +kernel
theorem dX8_layAgainst_65 : decode cX8_layAgainst 65 = .ok (.aload_n 0, 1) := by decide +kernel
theorem dX8_layAgainst_66 : decode cX8_layAgainst 66 = .ok (.invokevirtual 79, 3) := by decide +kernel
theorem dX8_layAgainst_69 : decode cX8_layAgainst 69 = .ok (.aload_n 0, 1) := by decide +kernel
theorem dX8_layAgainst_70 : decode cX8_layAgainst 70 = .ok (.invokevirtual 85, 3) := by decide +kernel
theorem dX8_layAgainst_73 : decode cX8_layAgainst 73 = .ok (.iload 5, 2) := by decide +kernel
theorem dX8_layAgainst_75 : decode cX8_layAgainst 75 = .ok (.iand, 1) := by decide +kernel
theorem dX8_layAgainst_76 : decode cX8_layAgainst 76 = .ok (.invokevirtual 177, 3) := by decide +kernel
theorem dX8_layAgainst_79 : decode cX8_layAgainst 79 = .ok (.goto 53, 3) := by decide +kernel
theorem dX8_layAgainst_82 : decode cX8_layAgainst 82 = .ok (.aload_n 0, 1) := by decide +kernel
theorem dX8_layAgainst_83 : decode cX8_layAgainst 83 = .ok (.iload 6, 2) := by decide +kernel
theorem dX8_layAgainst_85 : decode cX8_layAgainst 85 = .ok (.iload 5, 2) := by decide +kernel
theorem dX8_layAgainst_87 : decode cX8_layAgainst 87 = .ok (.iload 6, 2) := by decide +kernel
theorem dX8_layAgainst_89 : decode cX8_layAgainst 89 = .ok (.iand, 1) := by decide +kernel
theorem dX8_layAgainst_90 : decode cX8_layAgainst 90 = .ok (.invokevirtual 88, 3) := by decide +kernel
theorem dX8_layAgainst_93 : decode cX8_layAgainst 93 = .ok (.iload_n 1, 1) := by decide +kernel
theorem dX8_layAgainst_94 : decode cX8_layAgainst 94 = .ok (.ishr, 1) := by decide +kernel
theorem dX8_layAgainst_95 : decode cX8_layAgainst 95 = .ok (.iconst 1, 1) := by decide +kernel
theorem dX8_layAgainst_96 : decode cX8_layAgainst 96 = .ok (.iand, 1) := by decide +kernel
theorem dX8_layAgainst_97 : decode cX8_layAgainst 97 = .ok (.iconst 1, 1) := by decide +kernel
theorem dX8_layAgainst_98 : decode cX8_layAgainst 98 = .ok (.if_icmp .ne 23, 3) := by decide +kernel
theorem dX8_layAgainst_101 : decode cX8_layAgainst 101 = .ok (.aload_n 0, 1) := by decide +kernel
theorem dX8_layAgainst_102 : decode cX8_layAgainst 102 = .ok (.iload_n 1, 1) := by decide +kernel
theorem dX8_layAgainst_103 : decode cX8_layAgainst 103 = .ok (.iload 6, 2) := by decide +kernel
theorem dX8_layAgainst_105 : decode cX8_layAgainst 105 = .ok (.aload_n 0, 1) := by decide +kernel
theorem dX8_layAgainst_106 : decode cX8_layAgainst 106 = .ok (.invokevirtual 85, 3) := by decide +kernel
theorem dX8_layAgainst_109 : decode cX8_layAgainst 109 = .ok (.iload 5, 2) := by decide +kernel
theorem dX8_layAgainst_111 : decode cX8_layAgainst 111 = .ok (.iand, 1) := by decide +kernel
theorem dX8_layAgainst_112 : decode cX8_layAgainst 112 = .ok (.iload 6, 2) := by decide +kernel
theorem dX8_layAgainst_114 : decode cX8_layAgainst 114 = .ok (.iand, 1) := by decide +kernel
theorem dX8_layAgainst_115 : decode cX8_layAgainst 115 = .ok (.invokevirtual 177, 3) := by decide +kernel
theorem dX8_layAgainst_118 : decode cX8_layAgainst 118 = .ok (.goto 14, 3) := by decide +kernel
theorem dX8_layAgainst_121 : decode cX8_layAgainst 121 = .ok (.aload_n 0, 1) := by decide +kernel
theorem dX8_layAgainst_122 : decode cX8_layAgainst 122 = .ok (.iload_n 1, 1) := by decide +kernel
theorem dX8_layAgainst_123 : decode cX8_layAgainst 123 = .ok (.aload_n 0, 1) := by decide +kernel
theorem dX8_layAgainst_124 : decode cX8_layAgainst 124 = .ok (.iload 6, 2) := by decide +kernel
theorem dX8_layAgainst_126 : decode cX8_layAgainst 126 = .ok (.invokevirtual 82, 3) := by decide +kernel
theorem dX8_layAgainst_129 : decode cX8_layAgainst 129 = .ok (.invokevirtual 181, 3) := by decide +kernel
theorem dX8_layAgainst_132 : decode cX8_layAgainst 132 = .ok (.return_, 1) := by decide +kernel
theorem dX8_layWitness_0 : decode cX8_layWitness 0 = .ok (.aload_n 0, 1) := by decide +kernel
theorem dX8_layWitness_1 : decode cX8_layWitness 1 = .ok (.iconst 0, 1) := by decide +kernel
theorem dX8_layWitness_2 : decode cX8_layWitness 2 = .ok (.putfield 162, 3) := by decide +kernel
theorem dX8_layWitness_5 : decode cX8_layWitness 5 = .ok (.aload_n 0, 1) := by decide +kernel
theorem dX8_layWitness_6 : decode cX8_layWitness 6 = .ok (.iload_n 1, 1) := by decide +kernel
theorem dX8_layWitness_7 : decode cX8_layWitness 7 = .ok (.invokevirtual 101, 3) := by decide +kernel
theorem dX8_layWitness_10 : decode cX8_layWitness 10 = .ok (.ifCond .ne 4, 3) := by decide +kernel
theorem dX8_layWitness_13 : decode cX8_layWitness 13 = .ok (.return_, 1) := by decide +kernel
theorem dX8_layWitness_14 : decode cX8_layWitness 14 = .ok (.aload_n 0, 1) := by decide +kernel
theorem dX8_layWitness_15 : decode cX8_layWitness 15 = .ok (.iload_n 1, 1) := by decide +kernel
theorem dX8_layWitness_16 : decode cX8_layWitness 16 = .ok (.invokevirtual 144, 3) := by decide +kernel
theorem dX8_layWitness_19 : decode cX8_layWitness 19 = .ok (.iload_n 2, 1) := by decide +kernel
theorem dX8_layWitness_20 : decode cX8_layWitness 20 = .ok (.ishr, 1) := by decide +kernel
theorem dX8_layWitness_21 : decode cX8_layWitness 21 = .ok (.iconst 1, 1) := by decide +kernel
theorem dX8_layWitness_22 : decode cX8_layWitness 22 = .ok (.iand, 1) := by decide +kernel
theorem dX8_layWitness_23 : decode cX8_layWitness 23 = .ok (.iconst 1, 1) := by decide +kernel
theorem dX8_layWitness_24 : decode cX8_layWitness 24 = .ok (.if_icmp .ne 7, 3) := by decide +kernel
theorem dX8_layWitness_27 : decode cX8_layWitness 27 = .ok (.iconst 1, 1) := by decide +kernel
theorem dX8_layWitness_28 : decode cX8_layWitness 28 = .ok (.goto 4, 3) := by decide +kernel
theorem dX8_layWitness_31 : decode cX8_layWitness 31 = .ok (.iconst 0, 1) := by decide +kernel
theorem dX8_layWitness_32 : decode cX8_layWitness 32 = .ok (.istore_n 3, 1) := by decide +kernel
theorem dX8_layWitness_33 : decode cX8_layWitness 33 = .ok (.aload_n 0, 1) := by decide +kernel
theorem dX8_layWitness_34 : decode cX8_layWitness 34 = .ok (.iload_n 1, 1) := by decide +kernel
theorem dX8_layWitness_35 : decode cX8_layWitness 35 = .ok (.iconst 0, 1) := by decide +kernel
theorem dX8_layWitness_36 : decode cX8_layWitness 36 = .ok (.invokevirtual 91, 3) := by decide +kernel
theorem dX8_layWitness_39 : decode cX8_layWitness 39 = .ok (.istore 4, 2) := by decide +kernel
theorem dX8_layWitness_41 : decode cX8_layWitness 41 = .ok (.iload 4, 2) := by decide +kernel
theorem dX8_layWitness_43 : decode cX8_layWitness 43 = .ok (.bipush 69, 2) := by decide +kernel
theorem dX8_layWitness_45 : decode cX8_layWitness 45 = .ok (.if_icmp .eq 10, 3) := by decide +kernel
theorem dX8_layWitness_48 : decode cX8_layWitness 48 = .ok (.iload 4, 2) := by decide +kernel
theorem dX8_layWitness_50 : decode cX8_layWitness 50 = .ok (.bipush 65, 2) := by decide +kernel
theorem dX8_layWitness_52 : decode cX8_layWitness 52 = .ok (.if_icmp .ne 19, 3) := by decide +kernel
theorem dX8_layWitness_55 : decode cX8_layWitness 55 = .ok (.iload_n 3, 1) := by decide +kernel
theorem dX8_layWitness_56 : decode cX8_layWitness 56 = .ok (.iload 4, 2) := by decide +kernel
theorem dX8_layWitness_58 : decode cX8_layWitness 58 = .ok (.bipush 69, 2) := by decide +kernel
theorem dX8_layWitness_60 : decode cX8_layWitness 60 = .ok (.if_icmp .ne 7, 3) := by decide +kernel
theorem dX8_layWitness_63 : decode cX8_layWitness 63 = .ok (.iconst 1, 1) := by decide +kernel
theorem dX8_layWitness_64 : decode cX8_layWitness 64 = .ok (.goto 4, 3) := by decide +kernel
theorem dX8_layWitness_67 : decode cX8_layWitness 67 = .ok (.iconst 0, 1) := by decide +kernel
theorem dX8_layWitness_68 : decode cX8_layWitness 68 = .ok (.if_icmp .eq 4, 3) := by decide +kernel
theorem dX8_layWitness_71 : decode cX8_layWitness 71 = .ok (.return_, 1) := by decide +kernel
theorem dX8_layWitness_72 : decode cX8_layWitness 72 = .ok (.aload_n 0, 1) := by decide +kernel
theorem dX8_layWitness_73 : decode cX8_layWitness 73 = .ok (.iload_n 1, 1) := by decide +kernel
theorem dX8_layWitness_74 : decode cX8_layWitness 74 = .ok (.iconst 1, 1) := by decide +kernel
theorem dX8_layWitness_75 : decode cX8_layWitness 75 = .ok (.invokevirtual 91, 3) := by decide +kernel
theorem dX8_layWitness_78 : decode cX8_layWitness 78 = .ok (.istore 5, 2) := by decide +kernel
theorem dX8_layWitness_80 : decode cX8_layWitness 80 = .ok (.aload_n 0, 1) := by decide +kernel
theorem dX8_layWitness_81 : decode cX8_layWitness 81 = .ok (.getfield 19, 3) := by decide +kernel
theorem dX8_layWitness_84 : decode cX8_layWitness 84 = .ok (.iconst 2, 1) := by decide +kernel
theorem dX8_layWitness_85 : decode cX8_layWitness 85 = .ok (.iaload, 1) := by decide +kernel
theorem dX8_layWitness_86 : decode cX8_layWitness 86 = .ok (.istore 6, 2) := by decide +kernel
theorem dX8_layWitness_88 : decode cX8_layWitness 88 = .ok (.iload 5, 2) := by decide +kernel
theorem dX8_layWitness_90 : decode cX8_layWitness 90 = .ok (.bipush 85, 2) := by decide +kernel
theorem dX8_layWitness_92 : decode cX8_layWitness 92 = .ok (.if_icmp .ne 19, 3) := by decide +kernel
theorem dX8_layWitness_95 : decode cX8_layWitness 95 = .ok (.aload_n 0, 1) := by decide +kernel
theorem dX8_layWitness_96 : decode cX8_layWitness 96 = .ok (.getfield 19, 3) := by decide +kernel
theorem dX8_layWitness_99 : decode cX8_layWitness 99 = .ok (.iconst 2, 1) := by decide +kernel
theorem dX8_layWitness_100 : decode cX8_layWitness 100 = .ok (.aload_n 0, 1) := by decide +kernel
theorem dX8_layWitness_101 : decode cX8_layWitness 101 = .ok (.getfield 25, 3) := by decide +kernel
theorem dX8_layWitness_104 : decode cX8_layWitness 104 = .ok (.iconst 2, 1) := by decide +kernel
theorem dX8_layWitness_105 : decode cX8_layWitness 105 = .ok (.iaload, 1) := by decide +kernel
theorem dX8_layWitness_106 : decode cX8_layWitness 106 = .ok (.iadd, 1) := by decide +kernel
theorem dX8_layWitness_107 : decode cX8_layWitness 107 = .ok (.iaload, 1) := by decide +kernel
theorem dX8_layWitness_108 : decode cX8_layWitness 108 = .ok (.goto 4, 3) := by decide +kernel
theorem dX8_layWitness_111 : decode cX8_layWitness 111 = .ok (.iconst 0, 1) := by decide +kernel
theorem dX8_layWitness_112 : decode cX8_layWitness 112 = .ok (.istore 7, 2) := by decide +kernel
theorem dX8_layWitness_114 : decode cX8_layWitness 114 = .ok (.iload 4, 2) := by decide +kernel
theorem dX8_layWitness_116 : decode cX8_layWitness 116 = .ok (.bipush 69, 2) := by decide +kernel
theorem dX8_layWitness_118 : decode cX8_layWitness 118 = .ok (.if_icmp .ne 17, 3) := by decide +kernel
theorem dX8_layWitness_121 : decode cX8_layWitness 121 = .ok (.aload_n 0, 1) := by decide +kernel
theorem dX8_layWitness_122 : decode cX8_layWitness 122 = .ok (.iload_n 2, 1) := by decide +kernel
theorem dX8_layWitness_123 : decode cX8_layWitness 123 = .ok (.iload 5, 2) := by decide +kernel
theorem dX8_layWitness_125 : decode cX8_layWitness 125 = .ok (.iload 6, 2) := by decide +kernel
theorem dX8_layWitness_127 : decode cX8_layWitness 127 = .ok (.iload 7, 2) := by decide +kernel
theorem dX8_layWitness_129 : decode cX8_layWitness 129 = .ok (.invokevirtual 184, 3) := by decide +kernel
theorem dX8_layWitness_132 : decode cX8_layWitness 132 = .ok (.goto 14, 3) := by decide +kernel
theorem dX8_layWitness_135 : decode cX8_layWitness 135 = .ok (.aload_n 0, 1) := by decide +kernel
theorem dX8_layWitness_136 : decode cX8_layWitness 136 = .ok (.iload_n 2, 1) := by decide +kernel
theorem dX8_layWitness_137 : decode cX8_layWitness 137 = .ok (.iload 5, 2) := by decide +kernel
theorem dX8_layWitness_139 : decode cX8_layWitness 139 = .ok (.iload 6, 2) := by decide +kernel
theorem dX8_layWitness_141 : decode cX8_layWitness 141 = .ok (.iload 7, 2) := by decide +kernel
theorem dX8_layWitness_143 : decode cX8_layWitness 143 = .ok (.invokevirtual 188, 3) := by decide +kernel
theorem dX8_layWitness_146 : decode cX8_layWitness 146 = .ok (.return_, 1) := by decide +kernel
theorem dX8_witnessAt_0 : decode cX8_witnessAt 0 = .ok (.aload_n 0, 1) := by decide +kernel
theorem dX8_witnessAt_1 : decode cX8_witnessAt 1 = .ok (.iload_n 1, 1) := by decide +kernel
theorem dX8_witnessAt_2 : decode cX8_witnessAt 2 = .ok (.iload_n 2, 1) := by decide +kernel
theorem dX8_witnessAt_3 : decode cX8_witnessAt 3 = .ok (.invokevirtual 191, 3) := by decide +kernel
theorem dX8_witnessAt_6 : decode cX8_witnessAt 6 = .ok (.iload_n 3, 1) := by decide +kernel
theorem dX8_witnessAt_7 : decode cX8_witnessAt 7 = .ok (.aload_n 0, 1) := by decide +kernel
theorem dX8_witnessAt_8 : decode cX8_witnessAt 8 = .ok (.getfield 162, 3) := by decide +kernel
theorem dX8_witnessAt_11 : decode cX8_witnessAt 11 = .ok (.if_icmp .ge 12, 3) := by decide +kernel
theorem dX8_witnessAt_14 : decode cX8_witnessAt 14 = .ok (.aload_n 0, 1) := by decide +kernel
theorem dX8_witnessAt_15 : decode cX8_witnessAt 15 = .ok (.getfield 31, 3) := by decide +kernel
theorem dX8_witnessAt_18 : decode cX8_witnessAt 18 = .ok (.iload_n 3, 1) := by decide +kernel
theorem dX8_witnessAt_19 : decode cX8_witnessAt 19 = .ok (.iaload, 1) := by decide +kernel
theorem dX8_witnessAt_20 : decode cX8_witnessAt 20 = .ok (.goto 4, 3) := by decide +kernel
theorem dX8_witnessAt_23 : decode cX8_witnessAt 23 = .ok (.iconst (-1), 1) := by decide +kernel
theorem dX8_witnessAt_24 : decode cX8_witnessAt 24 = .ok (.ireturn, 1) := by decide +kernel
theorem dX8_witness_0 : decode cX8_witness 0 = .ok (.aload_n 0, 1) := by decide +kernel
theorem dX8_witness_1 : decode cX8_witness 1 = .ok (.iload_n 1, 1) := by decide +kernel
theorem dX8_witness_2 : decode cX8_witness 2 = .ok (.invokestatic 134, 3) := by decide +kernel
theorem dX8_witness_5 : decode cX8_witness 5 = .ok (.ifCond .eq 11, 3) := by decide +kernel
theorem dX8_witness_8 : decode cX8_witness 8 = .ok (.aload_n 0, 1) := by decide +kernel
theorem dX8_witness_9 : decode cX8_witness 9 = .ok (.iload_n 2, 1) := by decide +kernel
theorem dX8_witness_10 : decode cX8_witness 10 = .ok (.invokevirtual 51, 3) := by decide +kernel
theorem dX8_witness_13 : decode cX8_witness 13 = .ok (.ifCond .ne 7, 3) := by decide +kernel
theorem dX8_witness_16 : decode cX8_witness 16 = .ok (.iconst 1, 1) := by decide +kernel
theorem dX8_witness_17 : decode cX8_witness 17 = .ok (.goto 12, 3) := by decide +kernel
theorem dX8_witness_20 : decode cX8_witness 20 = .ok (.iload_n 3, 1) := by decide +kernel
theorem dX8_witness_21 : decode cX8_witness 21 = .ok (.ifCond .ge 7, 3) := by decide +kernel
theorem dX8_witness_24 : decode cX8_witness 24 = .ok (.iconst 2, 1) := by decide +kernel
theorem dX8_witness_25 : decode cX8_witness 25 = .ok (.goto 4, 3) := by decide +kernel
theorem dX8_witness_28 : decode cX8_witness 28 = .ok (.iconst 0, 1) := by decide +kernel
theorem dX8_witness_29 : decode cX8_witness 29 = .ok (.putfield 37, 3) := by decide +kernel
theorem dX8_witness_32 : decode cX8_witness 32 = .ok (.aload_n 0, 1) := by decide +kernel
theorem dX8_witness_33 : decode cX8_witness 33 = .ok (.getfield 37, 3) := by decide +kernel
theorem dX8_witness_36 : decode cX8_witness 36 = .ok (.ifCond .le 7, 3) := by decide +kernel
theorem dX8_witness_39 : decode cX8_witness 39 = .ok (.iconst 0, 1) := by decide +kernel
theorem dX8_witness_40 : decode cX8_witness 40 = .ok (.goto 10, 3) := by decide +kernel
theorem dX8_witness_43 : decode cX8_witness 43 = .ok (.aload_n 0, 1) := by decide +kernel
theorem dX8_witness_44 : decode cX8_witness 44 = .ok (.iload_n 1, 1) := by decide +kernel
theorem dX8_witness_45 : decode cX8_witness 45 = .ok (.iload_n 2, 1) := by decide +kernel
theorem dX8_witness_46 : decode cX8_witness 46 = .ok (.iload_n 3, 1) := by decide +kernel
theorem dX8_witness_47 : decode cX8_witness 47 = .ok (.invokevirtual 194, 3) := by decide +kernel
theorem dX8_witness_50 : decode cX8_witness 50 = .ok (.ireturn, 1) := by decide +kernel
theorem dX8_compared_0 : decode cX8_compared 0 = .ok (.aload_n 0, 1) := by decide +kernel
theorem dX8_compared_1 : decode cX8_compared 1 = .ok (.iload_n 1, 1) := by decide +kernel
theorem dX8_compared_2 : decode cX8_compared 2 = .ok (.invokevirtual 101, 3) := by decide +kernel
theorem dX8_compared_5 : decode cX8_compared 5 = .ok (.ifCond .eq 11, 3) := by decide +kernel
theorem dX8_compared_8 : decode cX8_compared 8 = .ok (.aload_n 0, 1) := by decide +kernel
theorem dX8_compared_9 : decode cX8_compared 9 = .ok (.iload_n 2, 1) := by decide +kernel
theorem dX8_compared_10 : decode cX8_compared 10 = .ok (.invokevirtual 101, 3) := by decide +kernel
theorem dX8_compared_13 : decode cX8_compared 13 = .ok (.ifCond .ne 5, 3) := by decide +kernel
theorem dX8_compared_16 : decode cX8_compared 16 = .ok (.iconst (-1), 1) := by decide +kernel
theorem dX8_compared_17 : decode cX8_compared 17 = .ok (.ireturn, 1) := by decide +kernel
theorem dX8_compared_18 : decode cX8_compared 18 = .ok (.aload_n 0, 1) := by decide +kernel
theorem dX8_compared_19 : decode cX8_compared 19 = .ok (.iload_n 1, 1) := by decide +kernel
theorem dX8_compared_20 : decode cX8_compared 20 = .ok (.invokevirtual 144, 3) := by decide +kernel
theorem dX8_compared_23 : decode cX8_compared 23 = .ok (.istore_n 3, 1) := by decide +kernel
theorem dX8_compared_24 : decode cX8_compared 24 = .ok (.aload_n 0, 1) := by decide +kernel
theorem dX8_compared_25 : decode cX8_compared 25 = .ok (.iload_n 2, 1) := by decide +kernel
theorem dX8_compared_26 : decode cX8_compared 26 = .ok (.invokevirtual 144, 3) := by decide +kernel
theorem dX8_compared_29 : decode cX8_compared 29 = .ok (.istore 4, 2) := by decide +kernel
theorem dX8_compared_31 : decode cX8_compared 31 = .ok (.iload_n 3, 1) := by decide +kernel
theorem dX8_compared_32 : decode cX8_compared 32 = .ok (.iload 4, 2) := by decide +kernel
theorem dX8_compared_34 : decode cX8_compared 34 = .ok (.if_icmp .ne 7, 3) := by decide +kernel
theorem dX8_compared_37 : decode cX8_compared 37 = .ok (.iconst 0, 1) := by decide +kernel
theorem dX8_compared_38 : decode cX8_compared 38 = .ok (.goto 30, 3) := by decide +kernel
theorem dX8_compared_41 : decode cX8_compared 41 = .ok (.iload_n 3, 1) := by decide +kernel
theorem dX8_compared_42 : decode cX8_compared 42 = .ok (.iload 4, 2) := by decide +kernel
theorem dX8_compared_44 : decode cX8_compared 44 = .ok (.iconst (-1), 1) := by decide +kernel
theorem dX8_compared_45 : decode cX8_compared 45 = .ok (.ixor, 1) := by decide +kernel
theorem dX8_compared_46 : decode cX8_compared 46 = .ok (.iand, 1) := by decide +kernel
theorem dX8_compared_47 : decode cX8_compared 47 = .ok (.ifCond .ne 7, 3) := by decide +kernel
theorem dX8_compared_50 : decode cX8_compared 50 = .ok (.iconst 1, 1) := by decide +kernel
theorem dX8_compared_51 : decode cX8_compared 51 = .ok (.goto 17, 3) := by decide +kernel
theorem dX8_compared_54 : decode cX8_compared 54 = .ok (.iload 4, 2) := by decide +kernel
theorem dX8_compared_56 : decode cX8_compared 56 = .ok (.iload_n 3, 1) := by decide +kernel
theorem dX8_compared_57 : decode cX8_compared 57 = .ok (.iconst (-1), 1) := by decide +kernel
theorem dX8_compared_58 : decode cX8_compared 58 = .ok (.ixor, 1) := by decide +kernel
theorem dX8_compared_59 : decode cX8_compared 59 = .ok (.iand, 1) := by decide +kernel
theorem dX8_compared_60 : decode cX8_compared 60 = .ok (.ifCond .ne 7, 3) := by decide +kernel
theorem dX8_compared_63 : decode cX8_compared 63 = .ok (.iconst 2, 1) := by decide +kernel
theorem dX8_compared_64 : decode cX8_compared 64 = .ok (.goto 4, 3) := by decide +kernel
theorem dX8_compared_67 : decode cX8_compared 67 = .ok (.iconst 3, 1) := by decide +kernel
theorem dX8_compared_68 : decode cX8_compared 68 = .ok (.ireturn, 1) := by decide +kernel
theorem dX8_compare_0 : decode cX8_compare 0 = .ok (.aload_n 0, 1) := by decide +kernel
theorem dX8_compare_1 : decode cX8_compare 1 = .ok (.iload_n 1, 1) := by decide +kernel
theorem dX8_compare_2 : decode cX8_compare 2 = .ok (.invokestatic 134, 3) := by decide +kernel
theorem dX8_compare_5 : decode cX8_compare 5 = .ok (.ifCond .eq 14, 3) := by decide +kernel
theorem dX8_compare_8 : decode cX8_compare 8 = .ok (.iload_n 2, 1) := by decide +kernel
theorem dX8_compare_9 : decode cX8_compare 9 = .ok (.invokestatic 134, 3) := by decide +kernel
theorem dX8_compare_12 : decode cX8_compare 12 = .ok (.ifCond .eq 7, 3) := by decide +kernel
theorem dX8_compare_15 : decode cX8_compare 15 = .ok (.iconst 0, 1) := by decide +kernel
theorem dX8_compare_16 : decode cX8_compare 16 = .ok (.goto 4, 3) := by decide +kernel
theorem dX8_compare_19 : decode cX8_compare 19 = .ok (.iconst 1, 1) := by decide +kernel
theorem dX8_compare_20 : decode cX8_compare 20 = .ok (.putfield 37, 3) := by decide +kernel
theorem dX8_compare_23 : decode cX8_compare 23 = .ok (.aload_n 0, 1) := by decide +kernel
theorem dX8_compare_24 : decode cX8_compare 24 = .ok (.getfield 37, 3) := by decide +kernel
theorem dX8_compare_27 : decode cX8_compare 27 = .ok (.ifCond .le 7, 3) := by decide +kernel
theorem dX8_compare_30 : decode cX8_compare 30 = .ok (.iconst 0, 1) := by decide +kernel
theorem dX8_compare_31 : decode cX8_compare 31 = .ok (.goto 9, 3) := by decide +kernel
theorem dX8_compare_34 : decode cX8_compare 34 = .ok (.aload_n 0, 1) := by decide +kernel
theorem dX8_compare_35 : decode cX8_compare 35 = .ok (.iload_n 1, 1) := by decide +kernel
theorem dX8_compare_36 : decode cX8_compare 36 = .ok (.iload_n 2, 1) := by decide +kernel
theorem dX8_compare_37 : decode cX8_compare 37 = .ok (.invokevirtual 197, 3) := by decide +kernel
theorem dX8_compare_40 : decode cX8_compare 40 = .ok (.ireturn, 1) := by decide +kernel
theorem dX8_wishMany_0 : decode cX8_wishMany 0 = .ok (.iconst 0, 1) := by decide +kernel
theorem dX8_wishMany_1 : decode cX8_wishMany 1 = .ok (.istore_n 1, 1) := by decide +kernel
theorem dX8_wishMany_2 : decode cX8_wishMany 2 = .ok (.iconst 0, 1) := by decide +kernel
theorem dX8_wishMany_3 : decode cX8_wishMany 3 = .ok (.istore_n 2, 1) := by decide +kernel
theorem dX8_wishMany_4 : decode cX8_wishMany 4 = .ok (.iload_n 2, 1) := by decide +kernel
theorem dX8_wishMany_5 : decode cX8_wishMany 5 = .ok (.iconst 4, 1) := by decide +kernel
theorem dX8_wishMany_6 : decode cX8_wishMany 6 = .ok (.if_icmp .ge 25, 3) := by decide +kernel
theorem dX8_wishMany_9 : decode cX8_wishMany 9 = .ok (.iload_n 1, 1) := by decide +kernel
theorem dX8_wishMany_10 : decode cX8_wishMany 10 = .ok (.aload_n 0, 1) := by decide +kernel
theorem dX8_wishMany_11 : decode cX8_wishMany 11 = .ok (.iload_n 2, 1) := by decide +kernel
theorem dX8_wishMany_12 : decode cX8_wishMany 12 = .ok (.invokevirtual 101, 3) := by decide +kernel
theorem dX8_wishMany_15 : decode cX8_wishMany 15 = .ok (.ifCond .le 7, 3) := by decide +kernel
theorem dX8_wishMany_18 : decode cX8_wishMany 18 = .ok (.iconst 1, 1) := by decide +kernel
theorem dX8_wishMany_19 : decode cX8_wishMany 19 = .ok (.goto 4, 3) := by decide +kernel
theorem dX8_wishMany_22 : decode cX8_wishMany 22 = .ok (.iconst 0, 1) := by decide +kernel
theorem dX8_wishMany_23 : decode cX8_wishMany 23 = .ok (.iadd, 1) := by decide +kernel
theorem dX8_wishMany_24 : decode cX8_wishMany 24 = .ok (.istore_n 1, 1) := by decide +kernel
theorem dX8_wishMany_25 : decode cX8_wishMany 25 = .ok (.iinc 2 1, 3) := by decide +kernel
theorem dX8_wishMany_28 : decode cX8_wishMany 28 = .ok (.goto (-24), 3) := by decide +kernel
theorem dX8_wishMany_31 : decode cX8_wishMany 31 = .ok (.iload_n 1, 1) := by decide +kernel
theorem dX8_wishMany_32 : decode cX8_wishMany 32 = .ok (.ireturn, 1) := by decide +kernel
theorem dX8_signMany_0 : decode cX8_signMany 0 = .ok (.iconst 0, 1) := by decide +kernel
theorem dX8_signMany_1 : decode cX8_signMany 1 = .ok (.istore_n 1, 1) := by decide +kernel
theorem dX8_signMany_2 : decode cX8_signMany 2 = .ok (.iconst 0, 1) := by decide +kernel
theorem dX8_signMany_3 : decode cX8_signMany 3 = .ok (.istore_n 2, 1) := by decide +kernel
theorem dX8_signMany_4 : decode cX8_signMany 4 = .ok (.iload_n 2, 1) := by decide +kernel
theorem dX8_signMany_5 : decode cX8_signMany 5 = .ok (.iconst 4, 1) := by decide +kernel
theorem dX8_signMany_6 : decode cX8_signMany 6 = .ok (.if_icmp .ge 17, 3) := by decide +kernel
theorem dX8_signMany_9 : decode cX8_signMany 9 = .ok (.iload_n 1, 1) := by decide +kernel
theorem dX8_signMany_10 : decode cX8_signMany 10 = .ok (.aload_n 0, 1) := by decide +kernel
theorem dX8_signMany_11 : decode cX8_signMany 11 = .ok (.iload_n 2, 1) := by decide +kernel
theorem dX8_signMany_12 : decode cX8_signMany 12 = .ok (.invokevirtual 101, 3) := by decide +kernel
theorem dX8_signMany_15 : decode cX8_signMany 15 = .ok (.iadd, 1) := by decide +kernel
theorem dX8_signMany_16 : decode cX8_signMany 16 = .ok (.istore_n 1, 1) := by decide +kernel
theorem dX8_signMany_17 : decode cX8_signMany 17 = .ok (.iinc 2 1, 3) := by decide +kernel
theorem dX8_signMany_20 : decode cX8_signMany 20 = .ok (.goto (-16), 3) := by decide +kernel
theorem dX8_signMany_23 : decode cX8_signMany 23 = .ok (.iload_n 1, 1) := by decide +kernel
theorem dX8_signMany_24 : decode cX8_signMany 24 = .ok (.ireturn, 1) := by decide +kernel
theorem dX8_stepless_0 : decode cX8_stepless 0 = .ok (.iconst 0, 1) := by decide +kernel
theorem dX8_stepless_1 : decode cX8_stepless 1 = .ok (.istore_n 1, 1) := by decide +kernel
theorem dX8_stepless_2 : decode cX8_stepless 2 = .ok (.iconst 0, 1) := by decide +kernel
theorem dX8_stepless_3 : decode cX8_stepless 3 = .ok (.istore_n 2, 1) := by decide +kernel
theorem dX8_stepless_4 : decode cX8_stepless 4 = .ok (.iload_n 2, 1) := by decide +kernel
theorem dX8_stepless_5 : decode cX8_stepless 5 = .ok (.aload_n 0, 1) := by decide +kernel
theorem dX8_stepless_6 : decode cX8_stepless 6 = .ok (.getfield 7, 3) := by decide +kernel
theorem dX8_stepless_9 : decode cX8_stepless 9 = .ok (.iconst 0, 1) := by decide +kernel
theorem dX8_stepless_10 : decode cX8_stepless 10 = .ok (.iaload, 1) := by decide +kernel
theorem dX8_stepless_11 : decode cX8_stepless 11 = .ok (.if_icmp .ge 29, 3) := by decide +kernel
theorem dX8_stepless_14 : decode cX8_stepless 14 = .ok (.iload_n 1, 1) := by decide +kernel
theorem dX8_stepless_15 : decode cX8_stepless 15 = .ok (.aload_n 0, 1) := by decide +kernel
theorem dX8_stepless_16 : decode cX8_stepless 16 = .ok (.getfield 7, 3) := by decide +kernel
theorem dX8_stepless_19 : decode cX8_stepless 19 = .ok (.bipush 12, 2) := by decide +kernel
theorem dX8_stepless_21 : decode cX8_stepless 21 = .ok (.iload_n 2, 1) := by decide +kernel
theorem dX8_stepless_22 : decode cX8_stepless 22 = .ok (.iadd, 1) := by decide +kernel
theorem dX8_stepless_23 : decode cX8_stepless 23 = .ok (.iaload, 1) := by decide +kernel
theorem dX8_stepless_24 : decode cX8_stepless 24 = .ok (.ifCond .ne 7, 3) := by decide +kernel
theorem dX8_stepless_27 : decode cX8_stepless 27 = .ok (.iconst 1, 1) := by decide +kernel
theorem dX8_stepless_28 : decode cX8_stepless 28 = .ok (.goto 4, 3) := by decide +kernel
theorem dX8_stepless_31 : decode cX8_stepless 31 = .ok (.iconst 0, 1) := by decide +kernel
theorem dX8_stepless_32 : decode cX8_stepless 32 = .ok (.iadd, 1) := by decide +kernel
theorem dX8_stepless_33 : decode cX8_stepless 33 = .ok (.istore_n 1, 1) := by decide +kernel
theorem dX8_stepless_34 : decode cX8_stepless 34 = .ok (.iinc 2 1, 3) := by decide +kernel
theorem dX8_stepless_37 : decode cX8_stepless 37 = .ok (.goto (-33), 3) := by decide +kernel
theorem dX8_stepless_40 : decode cX8_stepless 40 = .ok (.iload_n 1, 1) := by decide +kernel
theorem dX8_stepless_41 : decode cX8_stepless 41 = .ok (.ireturn, 1) := by decide +kernel
theorem dX8_allHold_0 : decode cX8_allHold 0 = .ok (.aload_n 0, 1) := by decide +kernel
theorem dX8_allHold_1 : decode cX8_allHold 1 = .ok (.invokevirtual 79, 3) := by decide +kernel
theorem dX8_allHold_4 : decode cX8_allHold 4 = .ok (.istore_n 1, 1) := by decide +kernel
theorem dX8_allHold_5 : decode cX8_allHold 5 = .ok (.iconst 0, 1) := by decide +kernel
theorem dX8_allHold_6 : decode cX8_allHold 6 = .ok (.istore_n 2, 1) := by decide +kernel
theorem dX8_allHold_7 : decode cX8_allHold 7 = .ok (.iload_n 2, 1) := by decide +kernel
theorem dX8_allHold_8 : decode cX8_allHold 8 = .ok (.iconst 4, 1) := by decide +kernel
theorem dX8_allHold_9 : decode cX8_allHold 9 = .ok (.if_icmp .ge 29, 3) := by decide +kernel
theorem dX8_allHold_12 : decode cX8_allHold 12 = .ok (.iload_n 1, 1) := by decide +kernel
theorem dX8_allHold_13 : decode cX8_allHold 13 = .ok (.aload_n 0, 1) := by decide +kernel
theorem dX8_allHold_14 : decode cX8_allHold 14 = .ok (.iload_n 2, 1) := by decide +kernel
theorem dX8_allHold_15 : decode cX8_allHold 15 = .ok (.invokevirtual 101, 3) := by decide +kernel
theorem dX8_allHold_18 : decode cX8_allHold 18 = .ok (.ifCond .le 11, 3) := by decide +kernel
theorem dX8_allHold_21 : decode cX8_allHold 21 = .ok (.aload_n 0, 1) := by decide +kernel
theorem dX8_allHold_22 : decode cX8_allHold 22 = .ok (.iload_n 2, 1) := by decide +kernel
theorem dX8_allHold_23 : decode cX8_allHold 23 = .ok (.invokevirtual 144, 3) := by decide +kernel
theorem dX8_allHold_26 : decode cX8_allHold 26 = .ok (.goto 4, 3) := by decide +kernel
theorem dX8_allHold_29 : decode cX8_allHold 29 = .ok (.iload_n 1, 1) := by decide +kernel
theorem dX8_allHold_30 : decode cX8_allHold 30 = .ok (.iand, 1) := by decide +kernel
theorem dX8_allHold_31 : decode cX8_allHold 31 = .ok (.istore_n 1, 1) := by decide +kernel
theorem dX8_allHold_32 : decode cX8_allHold 32 = .ok (.iinc 2 1, 3) := by decide +kernel
theorem dX8_allHold_35 : decode cX8_allHold 35 = .ok (.goto (-28), 3) := by decide +kernel
theorem dX8_allHold_38 : decode cX8_allHold 38 = .ok (.iload_n 1, 1) := by decide +kernel
theorem dX8_allHold_39 : decode cX8_allHold 39 = .ok (.invokestatic 59, 3) := by decide +kernel
theorem dX8_allHold_42 : decode cX8_allHold 42 = .ok (.ireturn, 1) := by decide +kernel
theorem dX8_counted_0 : decode cX8_counted 0 = .ok (.iload_n 1, 1) := by decide +kernel
theorem dX8_counted_1 : decode cX8_counted 1 = .ok (.tableswitch 94 0 7 #[47, 54, 59, 67, 72, 79, 84, 89], 47) := by decide +kernel
theorem dX8_counted_48 : decode cX8_counted 48 = .ok (.aload_n 0, 1) := by decide +kernel
theorem dX8_counted_49 : decode cX8_counted 49 = .ok (.getfield 7, 3) := by decide +kernel
theorem dX8_counted_52 : decode cX8_counted 52 = .ok (.iconst 0, 1) := by decide +kernel
theorem dX8_counted_53 : decode cX8_counted 53 = .ok (.iaload, 1) := by decide +kernel
theorem dX8_counted_54 : decode cX8_counted 54 = .ok (.ireturn, 1) := by decide +kernel
theorem dX8_counted_55 : decode cX8_counted 55 = .ok (.aload_n 0, 1) := by decide +kernel
theorem dX8_counted_56 : decode cX8_counted 56 = .ok (.invokevirtual 63, 3) := by decide +kernel
theorem dX8_counted_59 : decode cX8_counted 59 = .ok (.ireturn, 1) := by decide +kernel
theorem dX8_counted_60 : decode cX8_counted 60 = .ok (.aload_n 0, 1) := by decide +kernel
theorem dX8_counted_61 : decode cX8_counted 61 = .ok (.invokevirtual 85, 3) := by decide +kernel
theorem dX8_counted_64 : decode cX8_counted 64 = .ok (.invokestatic 59, 3) := by decide +kernel
theorem dX8_counted_67 : decode cX8_counted 67 = .ok (.ireturn, 1) := by decide +kernel
theorem dX8_counted_68 : decode cX8_counted 68 = .ok (.aload_n 0, 1) := by decide +kernel
theorem dX8_counted_69 : decode cX8_counted 69 = .ok (.invokevirtual 200, 3) := by decide +kernel
theorem dX8_counted_72 : decode cX8_counted 72 = .ok (.ireturn, 1) := by decide +kernel
theorem dX8_counted_73 : decode cX8_counted 73 = .ok (.aload_n 0, 1) := by decide +kernel
theorem dX8_counted_74 : decode cX8_counted 74 = .ok (.getfield 7, 3) := by decide +kernel
theorem dX8_counted_77 : decode cX8_counted 77 = .ok (.iconst 1, 1) := by decide +kernel
theorem dX8_counted_78 : decode cX8_counted 78 = .ok (.iaload, 1) := by decide +kernel
theorem dX8_counted_79 : decode cX8_counted 79 = .ok (.ireturn, 1) := by decide +kernel
theorem dX8_counted_80 : decode cX8_counted 80 = .ok (.aload_n 0, 1) := by decide +kernel
theorem dX8_counted_81 : decode cX8_counted 81 = .ok (.invokevirtual 203, 3) := by decide +kernel
theorem dX8_counted_84 : decode cX8_counted 84 = .ok (.ireturn, 1) := by decide +kernel
theorem dX8_counted_85 : decode cX8_counted 85 = .ok (.aload_n 0, 1) := by decide +kernel
theorem dX8_counted_86 : decode cX8_counted 86 = .ok (.invokevirtual 206, 3) := by decide +kernel
theorem dX8_counted_89 : decode cX8_counted 89 = .ok (.ireturn, 1) := by decide +kernel
theorem dX8_counted_90 : decode cX8_counted 90 = .ok (.aload_n 0, 1) := by decide +kernel
theorem dX8_counted_91 : decode cX8_counted 91 = .ok (.invokevirtual 209, 3) := by decide +kernel
theorem dX8_counted_94 : decode cX8_counted 94 = .ok (.ireturn, 1) := by decide +kernel
theorem dX8_counted_95 : decode cX8_counted 95 = .ok (.aload_n 0, 1) := by decide +kernel
theorem dX8_counted_96 : decode cX8_counted 96 = .ok (.getfield 45, 3) := by decide +kernel
theorem dX8_counted_99 : decode cX8_counted 99 = .ok (.ireturn, 1) := by decide +kernel
theorem dX8_count_0 : decode cX8_count 0 = .ok (.aload_n 0, 1) := by decide +kernel
theorem dX8_count_1 : decode cX8_count 1 = .ok (.iload_n 1, 1) := by decide +kernel
theorem dX8_count_2 : decode cX8_count 2 = .ok (.iconst 0, 1) := by decide +kernel
theorem dX8_count_3 : decode cX8_count 3 = .ok (.bipush 8, 2) := by decide +kernel
theorem dX8_count_5 : decode cX8_count 5 = .ok (.invokestatic 41, 3) := by decide +kernel
theorem dX8_count_8 : decode cX8_count 8 = .ok (.ifCond .eq 7, 3) := by decide +kernel
theorem dX8_count_11 : decode cX8_count 11 = .ok (.iconst 0, 1) := by decide +kernel
theorem dX8_count_12 : decode cX8_count 12 = .ok (.goto 4, 3) := by decide +kernel
theorem dX8_count_15 : decode cX8_count 15 = .ok (.iconst 1, 1) := by decide +kernel
theorem dX8_count_16 : decode cX8_count 16 = .ok (.putfield 37, 3) := by decide +kernel
theorem dX8_count_19 : decode cX8_count 19 = .ok (.aload_n 0, 1) := by decide +kernel
theorem dX8_count_20 : decode cX8_count 20 = .ok (.getfield 37, 3) := by decide +kernel
theorem dX8_count_23 : decode cX8_count 23 = .ok (.ifCond .le 7, 3) := by decide +kernel
theorem dX8_count_26 : decode cX8_count 26 = .ok (.iconst 0, 1) := by decide +kernel
theorem dX8_count_27 : decode cX8_count 27 = .ok (.goto 8, 3) := by decide +kernel
theorem dX8_count_30 : decode cX8_count 30 = .ok (.aload_n 0, 1) := by decide +kernel
theorem dX8_count_31 : decode cX8_count 31 = .ok (.iload_n 1, 1) := by decide +kernel
theorem dX8_count_32 : decode cX8_count 32 = .ok (.invokevirtual 212, 3) := by decide +kernel
theorem dX8_count_35 : decode cX8_count 35 = .ok (.ireturn, 1) := by decide +kernel
theorem dX8_tryFix_0 : decode cX8_tryFix 0 = .ok (.aload_n 0, 1) := by decide +kernel
theorem dX8_tryFix_1 : decode cX8_tryFix 1 = .ok (.getfield 7, 3) := by decide +kernel
theorem dX8_tryFix_4 : decode cX8_tryFix 4 = .ok (.iload_n 1, 1) := by decide +kernel
theorem dX8_tryFix_5 : decode cX8_tryFix 5 = .ok (.dup2, 1) := by decide +kernel
theorem dX8_tryFix_6 : decode cX8_tryFix 6 = .ok (.iaload, 1) := by decide +kernel
theorem dX8_tryFix_7 : decode cX8_tryFix 7 = .ok (.iconst 1, 1) := by decide +kernel
theorem dX8_tryFix_8 : decode cX8_tryFix 8 = .ok (.iload_n 2, 1) := by decide +kernel
theorem dX8_tryFix_9 : decode cX8_tryFix 9 = .ok (.ishl, 1) := by decide +kernel
theorem dX8_tryFix_10 : decode cX8_tryFix 10 = .ok (.ixor, 1) := by decide +kernel
theorem dX8_tryFix_11 : decode cX8_tryFix 11 = .ok (.iastore, 1) := by decide +kernel
theorem dX8_tryFix_12 : decode cX8_tryFix 12 = .ok (.aload_n 0, 1) := by decide +kernel
theorem dX8_tryFix_13 : decode cX8_tryFix 13 = .ok (.iload_n 3, 1) := by decide +kernel
theorem dX8_tryFix_14 : decode cX8_tryFix 14 = .ok (.invokevirtual 144, 3) := by decide +kernel
theorem dX8_tryFix_17 : decode cX8_tryFix 17 = .ok (.iload 4, 2) := by decide +kernel
theorem dX8_tryFix_19 : decode cX8_tryFix 19 = .ok (.ishr, 1) := by decide +kernel
theorem dX8_tryFix_20 : decode cX8_tryFix 20 = .ok (.iconst 1, 1) := by decide +kernel
theorem dX8_tryFix_21 : decode cX8_tryFix 21 = .ok (.iand, 1) := by decide +kernel
theorem dX8_tryFix_22 : decode cX8_tryFix 22 = .ok (.iconst 1, 1) := by decide +kernel
theorem dX8_tryFix_23 : decode cX8_tryFix 23 = .ok (.if_icmp .ne 7, 3) := by decide +kernel
theorem dX8_tryFix_26 : decode cX8_tryFix 26 = .ok (.iconst 1, 1) := by decide +kernel
theorem dX8_tryFix_27 : decode cX8_tryFix 27 = .ok (.goto 4, 3) := by decide +kernel
theorem dX8_tryFix_30 : decode cX8_tryFix 30 = .ok (.iconst 0, 1) := by decide +kernel
theorem dX8_tryFix_31 : decode cX8_tryFix 31 = .ok (.istore 6, 2) := by decide +kernel
theorem dX8_tryFix_33 : decode cX8_tryFix 33 = .ok (.aload_n 0, 1) := by decide +kernel
theorem dX8_tryFix_34 : decode cX8_tryFix 34 = .ok (.getfield 7, 3) := by decide +kernel
theorem dX8_tryFix_37 : decode cX8_tryFix 37 = .ok (.iload_n 1, 1) := by decide +kernel
theorem dX8_tryFix_38 : decode cX8_tryFix 38 = .ok (.dup2, 1) := by decide +kernel
theorem dX8_tryFix_39 : decode cX8_tryFix 39 = .ok (.iaload, 1) := by decide +kernel
theorem dX8_tryFix_40 : decode cX8_tryFix 40 = .ok (.iconst 1, 1) := by decide +kernel
theorem dX8_tryFix_41 : decode cX8_tryFix 41 = .ok (.iload_n 2, 1) := by decide +kernel
theorem dX8_tryFix_42 : decode cX8_tryFix 42 = .ok (.ishl, 1) := by decide +kernel
theorem dX8_tryFix_43 : decode cX8_tryFix 43 = .ok (.ixor, 1) := by decide +kernel
theorem dX8_tryFix_44 : decode cX8_tryFix 44 = .ok (.iastore, 1) := by decide +kernel
theorem dX8_tryFix_45 : decode cX8_tryFix 45 = .ok (.aload_n 0, 1) := by decide +kernel
theorem dX8_tryFix_46 : decode cX8_tryFix 46 = .ok (.iload 6, 2) := by decide +kernel
theorem dX8_tryFix_48 : decode cX8_tryFix 48 = .ok (.ifCond .eq 15, 3) := by decide +kernel
theorem dX8_tryFix_51 : decode cX8_tryFix 51 = .ok (.aload_n 0, 1) := by decide +kernel
theorem dX8_tryFix_52 : decode cX8_tryFix 52 = .ok (.getfield 215, 3) := by decide +kernel
theorem dX8_tryFix_55 : decode cX8_tryFix 55 = .ok (.ifCond .ne 8, 3) := by decide +kernel
theorem dX8_tryFix_58 : decode cX8_tryFix 58 = .ok (.iload 5, 2) := by decide +kernel
theorem dX8_tryFix_60 : decode cX8_tryFix 60 = .ok (.goto 7, 3) := by decide +kernel
theorem dX8_tryFix_63 : decode cX8_tryFix 63 = .ok (.aload_n 0, 1) := by decide +kernel
theorem dX8_tryFix_64 : decode cX8_tryFix 64 = .ok (.getfield 218, 3) := by decide +kernel
theorem dX8_tryFix_67 : decode cX8_tryFix 67 = .ok (.putfield 218, 3) := by decide +kernel
theorem dX8_tryFix_70 : decode cX8_tryFix 70 = .ok (.aload_n 0, 1) := by decide +kernel
theorem dX8_tryFix_71 : decode cX8_tryFix 71 = .ok (.dup, 1) := by decide +kernel
theorem dX8_tryFix_72 : decode cX8_tryFix 72 = .ok (.getfield 215, 3) := by decide +kernel
theorem dX8_tryFix_75 : decode cX8_tryFix 75 = .ok (.iload 6, 2) := by decide +kernel
theorem dX8_tryFix_77 : decode cX8_tryFix 77 = .ok (.ifCond .eq 7, 3) := by decide +kernel
theorem dX8_tryFix_80 : decode cX8_tryFix 80 = .ok (.iconst 1, 1) := by decide +kernel
theorem dX8_tryFix_81 : decode cX8_tryFix 81 = .ok (.goto 4, 3) := by decide +kernel
theorem dX8_tryFix_84 : decode cX8_tryFix 84 = .ok (.iconst 0, 1) := by decide +kernel
theorem dX8_tryFix_85 : decode cX8_tryFix 85 = .ok (.iadd, 1) := by decide +kernel
theorem dX8_tryFix_86 : decode cX8_tryFix 86 = .ok (.putfield 215, 3) := by decide +kernel
theorem dX8_tryFix_89 : decode cX8_tryFix 89 = .ok (.return_, 1) := by decide +kernel
theorem dX8_fixed_0 : decode cX8_fixed 0 = .ok (.aload_n 0, 1) := by decide +kernel
theorem dX8_fixed_1 : decode cX8_fixed 1 = .ok (.iload_n 1, 1) := by decide +kernel
theorem dX8_fixed_2 : decode cX8_fixed 2 = .ok (.invokevirtual 101, 3) := by decide +kernel
theorem dX8_fixed_5 : decode cX8_fixed 5 = .ok (.ifCond .ne 5, 3) := by decide +kernel
theorem dX8_fixed_8 : decode cX8_fixed 8 = .ok (.iconst (-1), 1) := by decide +kernel
theorem dX8_fixed_9 : decode cX8_fixed 9 = .ok (.ireturn, 1) := by decide +kernel
theorem dX8_fixed_10 : decode cX8_fixed 10 = .ok (.aload_n 0, 1) := by decide +kernel
theorem dX8_fixed_11 : decode cX8_fixed 11 = .ok (.iconst 0, 1) := by decide +kernel
theorem dX8_fixed_12 : decode cX8_fixed 12 = .ok (.putfield 215, 3) := by decide +kernel
theorem dX8_fixed_15 : decode cX8_fixed 15 = .ok (.aload_n 0, 1) := by decide +kernel
theorem dX8_fixed_16 : decode cX8_fixed 16 = .ok (.iconst (-1), 1) := by decide +kernel
theorem dX8_fixed_17 : decode cX8_fixed 17 = .ok (.putfield 218, 3) := by decide +kernel
theorem dX8_fixed_20 : decode cX8_fixed 20 = .ok (.iload_n 3, 1) := by decide +kernel
theorem dX8_fixed_21 : decode cX8_fixed 21 = .ok (.iconst 2, 1) := by decide +kernel
theorem dX8_fixed_22 : decode cX8_fixed 22 = .ok (.if_icmp .ge 7, 3) := by decide +kernel
theorem dX8_fixed_25 : decode cX8_fixed 25 = .ok (.iconst 1, 1) := by decide +kernel
theorem dX8_fixed_26 : decode cX8_fixed 26 = .ok (.goto 4, 3) := by decide +kernel
theorem dX8_fixed_29 : decode cX8_fixed 29 = .ok (.iconst 0, 1) := by decide +kernel
theorem dX8_fixed_30 : decode cX8_fixed 30 = .ok (.istore 4, 2) := by decide +kernel
theorem dX8_fixed_32 : decode cX8_fixed 32 = .ok (.iconst 0, 1) := by decide +kernel
theorem dX8_fixed_33 : decode cX8_fixed 33 = .ok (.istore 5, 2) := by decide +kernel
theorem dX8_fixed_35 : decode cX8_fixed 35 = .ok (.iload 5, 2) := by decide +kernel
theorem dX8_fixed_37 : decode cX8_fixed 37 = .ok (.aload_n 0, 1) := by decide +kernel
theorem dX8_fixed_38 : decode cX8_fixed 38 = .ok (.getfield 7, 3) := by decide +kernel
theorem dX8_fixed_41 : decode cX8_fixed 41 = .ok (.iconst 0, 1) := by decide +kernel
theorem dX8_fixed_42 : decode cX8_fixed 42 = .ok (.iaload, 1) := by decide +kernel
theorem dX8_fixed_43 : decode cX8_fixed 43 = .ok (.if_icmp .ge 83, 3) := by decide +kernel
theorem dX8_fixed_46 : decode cX8_fixed 46 = .ok (.iconst 0, 1) := by decide +kernel
theorem dX8_fixed_47 : decode cX8_fixed 47 = .ok (.istore 6, 2) := by decide +kernel
theorem dX8_fixed_49 : decode cX8_fixed 49 = .ok (.iload 6, 2) := by decide +kernel
theorem dX8_fixed_51 : decode cX8_fixed 51 = .ok (.iload 4, 2) := by decide +kernel
theorem dX8_fixed_53 : decode cX8_fixed 53 = .ok (.ifCond .eq 7, 3) := by decide +kernel
theorem dX8_fixed_56 : decode cX8_fixed 56 = .ok (.iconst 4, 1) := by decide +kernel
theorem dX8_fixed_57 : decode cX8_fixed 57 = .ok (.goto 9, 3) := by decide +kernel
theorem dX8_fixed_60 : decode cX8_fixed 60 = .ok (.aload_n 0, 1) := by decide +kernel
theorem dX8_fixed_61 : decode cX8_fixed 61 = .ok (.getfield 7, 3) := by decide +kernel
theorem dX8_fixed_64 : decode cX8_fixed 64 = .ok (.iconst 0, 1) := by decide +kernel
theorem dX8_fixed_65 : decode cX8_fixed 65 = .ok (.iaload, 1) := by decide +kernel
theorem dX8_fixed_66 : decode cX8_fixed 66 = .ok (.if_icmp .ge 54, 3) := by decide +kernel
theorem dX8_fixed_69 : decode cX8_fixed 69 = .ok (.aload_n 0, 1) := by decide +kernel
theorem dX8_fixed_70 : decode cX8_fixed 70 = .ok (.iload 4, 2) := by decide +kernel
theorem dX8_fixed_72 : decode cX8_fixed 72 = .ok (.ifCond .eq 7, 3) := by decide +kernel
theorem dX8_fixed_75 : decode cX8_fixed 75 = .ok (.iconst 2, 1) := by decide +kernel
theorem dX8_fixed_76 : decode cX8_fixed 76 = .ok (.goto 5, 3) := by decide +kernel
theorem dX8_fixed_79 : decode cX8_fixed 79 = .ok (.bipush 12, 2) := by decide +kernel
theorem dX8_fixed_81 : decode cX8_fixed 81 = .ok (.iload 5, 2) := by decide +kernel
theorem dX8_fixed_83 : decode cX8_fixed 83 = .ok (.iadd, 1) := by decide +kernel
theorem dX8_fixed_84 : decode cX8_fixed 84 = .ok (.iload 6, 2) := by decide +kernel
theorem dX8_fixed_86 : decode cX8_fixed 86 = .ok (.iload_n 1, 1) := by decide +kernel
theorem dX8_fixed_87 : decode cX8_fixed 87 = .ok (.iload_n 2, 1) := by decide +kernel
theorem dX8_fixed_88 : decode cX8_fixed 88 = .ok (.iload 4, 2) := by decide +kernel
theorem dX8_fixed_90 : decode cX8_fixed 90 = .ok (.ifCond .eq 13, 3) := by decide +kernel
theorem dX8_fixed_93 : decode cX8_fixed 93 = .ok (.iconst 4, 1) := by decide +kernel
theorem dX8_fixed_94 : decode cX8_fixed 94 = .ok (.iload 5, 2) := by decide +kernel
theorem dX8_fixed_96 : decode cX8_fixed 96 = .ok (.imul, 1) := by decide +kernel
theorem dX8_fixed_97 : decode cX8_fixed 97 = .ok (.iload 6, 2) := by decide +kernel
theorem dX8_fixed_99 : decode cX8_fixed 99 = .ok (.iadd, 1) := by decide +kernel
theorem dX8_fixed_100 : decode cX8_fixed 100 = .ok (.goto 11, 3) := by decide +kernel
theorem dX8_fixed_103 : decode cX8_fixed 103 = .ok (.bipush 10, 2) := by decide +kernel
theorem dX8_fixed_105 : decode cX8_fixed 105 = .ok (.iload 5, 2) := by decide +kernel
theorem dX8_fixed_107 : decode cX8_fixed 107 = .ok (.imul, 1) := by decide +kernel
theorem dX8_fixed_108 : decode cX8_fixed 108 = .ok (.iload 6, 2) := by decide +kernel
theorem dX8_fixed_110 : decode cX8_fixed 110 = .ok (.iadd, 1) := by decide +kernel
theorem dX8_fixed_111 : decode cX8_fixed 111 = .ok (.invokevirtual 221, 3) := by decide +kernel
theorem dX8_fixed_114 : decode cX8_fixed 114 = .ok (.iinc 6 1, 3) := by decide +kernel
theorem dX8_fixed_117 : decode cX8_fixed 117 = .ok (.goto (-68), 3) := by decide +kernel
theorem dX8_fixed_120 : decode cX8_fixed 120 = .ok (.iinc 5 1, 3) := by decide +kernel
theorem dX8_fixed_123 : decode cX8_fixed 123 = .ok (.goto (-88), 3) := by decide +kernel
theorem dX8_fixed_126 : decode cX8_fixed 126 = .ok (.iload_n 3, 1) := by decide +kernel
theorem dX8_fixed_127 : decode cX8_fixed 127 = .ok (.iconst 2, 1) := by decide +kernel
theorem dX8_fixed_128 : decode cX8_fixed 128 = .ok (.irem, 1) := by decide +kernel
theorem dX8_fixed_129 : decode cX8_fixed 129 = .ok (.ifCond .ne 10, 3) := by decide +kernel
theorem dX8_fixed_132 : decode cX8_fixed 132 = .ok (.aload_n 0, 1) := by decide +kernel
theorem dX8_fixed_133 : decode cX8_fixed 133 = .ok (.getfield 215, 3) := by decide +kernel
theorem dX8_fixed_136 : decode cX8_fixed 136 = .ok (.goto 7, 3) := by decide +kernel
theorem dX8_fixed_139 : decode cX8_fixed 139 = .ok (.aload_n 0, 1) := by decide +kernel
theorem dX8_fixed_140 : decode cX8_fixed 140 = .ok (.getfield 218, 3) := by decide +kernel
theorem dX8_fixed_143 : decode cX8_fixed 143 = .ok (.ireturn, 1) := by decide +kernel
theorem dX8_fixes_0 : decode cX8_fixes 0 = .ok (.aload_n 0, 1) := by decide +kernel
theorem dX8_fixes_1 : decode cX8_fixes 1 = .ok (.iload_n 1, 1) := by decide +kernel
theorem dX8_fixes_2 : decode cX8_fixes 2 = .ok (.invokestatic 134, 3) := by decide +kernel
theorem dX8_fixes_5 : decode cX8_fixes 5 = .ok (.ifCond .eq 11, 3) := by decide +kernel
theorem dX8_fixes_8 : decode cX8_fixes 8 = .ok (.aload_n 0, 1) := by decide +kernel
theorem dX8_fixes_9 : decode cX8_fixes 9 = .ok (.iload_n 2, 1) := by decide +kernel
theorem dX8_fixes_10 : decode cX8_fixes 10 = .ok (.invokevirtual 51, 3) := by decide +kernel
theorem dX8_fixes_13 : decode cX8_fixes 13 = .ok (.ifCond .ne 7, 3) := by decide +kernel
theorem dX8_fixes_16 : decode cX8_fixes 16 = .ok (.iconst 1, 1) := by decide +kernel
theorem dX8_fixes_17 : decode cX8_fixes 17 = .ok (.goto 17, 3) := by decide +kernel
theorem dX8_fixes_20 : decode cX8_fixes 20 = .ok (.iload_n 3, 1) := by decide +kernel
theorem dX8_fixes_21 : decode cX8_fixes 21 = .ok (.iconst 0, 1) := by decide +kernel
theorem dX8_fixes_22 : decode cX8_fixes 22 = .ok (.iconst 3, 1) := by decide +kernel
theorem dX8_fixes_23 : decode cX8_fixes 23 = .ok (.invokestatic 41, 3) := by decide +kernel
theorem dX8_fixes_26 : decode cX8_fixes 26 = .ok (.ifCond .eq 7, 3) := by decide +kernel
theorem dX8_fixes_29 : decode cX8_fixes 29 = .ok (.iconst 0, 1) := by decide +kernel
theorem dX8_fixes_30 : decode cX8_fixes 30 = .ok (.goto 4, 3) := by decide +kernel
theorem dX8_fixes_33 : decode cX8_fixes 33 = .ok (.iconst 2, 1) := by decide +kernel
theorem dX8_fixes_34 : decode cX8_fixes 34 = .ok (.putfield 37, 3) := by decide +kernel
theorem dX8_fixes_37 : decode cX8_fixes 37 = .ok (.aload_n 0, 1) := by decide +kernel
theorem dX8_fixes_38 : decode cX8_fixes 38 = .ok (.getfield 37, 3) := by decide +kernel
theorem dX8_fixes_41 : decode cX8_fixes 41 = .ok (.ifCond .le 7, 3) := by decide +kernel
theorem dX8_fixes_44 : decode cX8_fixes 44 = .ok (.iconst 0, 1) := by decide +kernel
theorem dX8_fixes_45 : decode cX8_fixes 45 = .ok (.goto 10, 3) := by decide +kernel
theorem dX8_fixes_48 : decode cX8_fixes 48 = .ok (.aload_n 0, 1) := by decide +kernel
theorem dX8_fixes_49 : decode cX8_fixes 49 = .ok (.iload_n 1, 1) := by decide +kernel
theorem dX8_fixes_50 : decode cX8_fixes 50 = .ok (.iload_n 2, 1) := by decide +kernel
theorem dX8_fixes_51 : decode cX8_fixes 51 = .ok (.iload_n 3, 1) := by decide +kernel
theorem dX8_fixes_52 : decode cX8_fixes 52 = .ok (.invokevirtual 225, 3) := by decide +kernel
theorem dX8_fixes_55 : decode cX8_fixes 55 = .ok (.ireturn, 1) := by decide +kernel
theorem dX8_byFair_0 : decode cX8_byFair 0 = .ok (.aload_n 0, 1) := by decide +kernel
theorem dX8_byFair_1 : decode cX8_byFair 1 = .ok (.iload_n 1, 1) := by decide +kernel
theorem dX8_byFair_2 : decode cX8_byFair 2 = .ok (.invokevirtual 101, 3) := by decide +kernel
theorem dX8_byFair_5 : decode cX8_byFair 5 = .ok (.ifCond .ne 5, 3) := by decide +kernel
theorem dX8_byFair_8 : decode cX8_byFair 8 = .ok (.iconst (-1), 1) := by decide +kernel
theorem dX8_byFair_9 : decode cX8_byFair 9 = .ok (.ireturn, 1) := by decide +kernel
theorem dX8_byFair_10 : decode cX8_byFair 10 = .ok (.aload_n 0, 1) := by decide +kernel
theorem dX8_byFair_11 : decode cX8_byFair 11 = .ok (.getfield 7, 3) := by decide +kernel
theorem dX8_byFair_14 : decode cX8_byFair 14 = .ok (.iconst 1, 1) := by decide +kernel
theorem dX8_byFair_15 : decode cX8_byFair 15 = .ok (.iaload, 1) := by decide +kernel
theorem dX8_byFair_16 : decode cX8_byFair 16 = .ok (.istore_n 3, 1) := by decide +kernel
theorem dX8_byFair_17 : decode cX8_byFair 17 = .ok (.aload_n 0, 1) := by decide +kernel
theorem dX8_byFair_18 : decode cX8_byFair 18 = .ok (.getfield 7, 3) := by decide +kernel
theorem dX8_byFair_21 : decode cX8_byFair 21 = .ok (.iconst 1, 1) := by decide +kernel
theorem dX8_byFair_22 : decode cX8_byFair 22 = .ok (.iload_n 2, 1) := by decide +kernel
theorem dX8_byFair_23 : decode cX8_byFair 23 = .ok (.iastore, 1) := by decide +kernel
theorem dX8_byFair_24 : decode cX8_byFair 24 = .ok (.aload_n 0, 1) := by decide +kernel
theorem dX8_byFair_25 : decode cX8_byFair 25 = .ok (.iload_n 1, 1) := by decide +kernel
theorem dX8_byFair_26 : decode cX8_byFair 26 = .ok (.invokevirtual 144, 3) := by decide +kernel
theorem dX8_byFair_29 : decode cX8_byFair 29 = .ok (.istore 4, 2) := by decide +kernel
theorem dX8_byFair_31 : decode cX8_byFair 31 = .ok (.aload_n 0, 1) := by decide +kernel
theorem dX8_byFair_32 : decode cX8_byFair 32 = .ok (.getfield 7, 3) := by decide +kernel
theorem dX8_byFair_35 : decode cX8_byFair 35 = .ok (.iconst 1, 1) := by decide +kernel
theorem dX8_byFair_36 : decode cX8_byFair 36 = .ok (.iload_n 3, 1) := by decide +kernel
theorem dX8_byFair_37 : decode cX8_byFair 37 = .ok (.iastore, 1) := by decide +kernel
theorem dX8_byFair_38 : decode cX8_byFair 38 = .ok (.iload 4, 2) := by decide +kernel
theorem dX8_byFair_40 : decode cX8_byFair 40 = .ok (.ireturn, 1) := by decide +kernel
theorem dX8_ifFair_0 : decode cX8_ifFair 0 = .ok (.aload_n 0, 1) := by decide +kernel
theorem dX8_ifFair_1 : decode cX8_ifFair 1 = .ok (.iload_n 1, 1) := by decide +kernel
theorem dX8_ifFair_2 : decode cX8_ifFair 2 = .ok (.invokestatic 134, 3) := by decide +kernel
theorem dX8_ifFair_5 : decode cX8_ifFair 5 = .ok (.ifCond .ne 7, 3) := by decide +kernel
theorem dX8_ifFair_8 : decode cX8_ifFair 8 = .ok (.iconst 1, 1) := by decide +kernel
theorem dX8_ifFair_9 : decode cX8_ifFair 9 = .ok (.goto 17, 3) := by decide +kernel
theorem dX8_ifFair_12 : decode cX8_ifFair 12 = .ok (.iload_n 2, 1) := by decide +kernel
theorem dX8_ifFair_13 : decode cX8_ifFair 13 = .ok (.iconst (-1), 1) := by decide +kernel
theorem dX8_ifFair_14 : decode cX8_ifFair 14 = .ok (.iconst 3, 1) := by decide +kernel
theorem dX8_ifFair_15 : decode cX8_ifFair 15 = .ok (.invokestatic 41, 3) := by decide +kernel
theorem dX8_ifFair_18 : decode cX8_ifFair 18 = .ok (.ifCond .eq 7, 3) := by decide +kernel
theorem dX8_ifFair_21 : decode cX8_ifFair 21 = .ok (.iconst 0, 1) := by decide +kernel
theorem dX8_ifFair_22 : decode cX8_ifFair 22 = .ok (.goto 4, 3) := by decide +kernel
theorem dX8_ifFair_25 : decode cX8_ifFair 25 = .ok (.iconst 2, 1) := by decide +kernel
theorem dX8_ifFair_26 : decode cX8_ifFair 26 = .ok (.putfield 37, 3) := by decide +kernel
theorem dX8_ifFair_29 : decode cX8_ifFair 29 = .ok (.aload_n 0, 1) := by decide +kernel
theorem dX8_ifFair_30 : decode cX8_ifFair 30 = .ok (.getfield 37, 3) := by decide +kernel
theorem dX8_ifFair_33 : decode cX8_ifFair 33 = .ok (.ifCond .le 7, 3) := by decide +kernel
theorem dX8_ifFair_36 : decode cX8_ifFair 36 = .ok (.iconst 0, 1) := by decide +kernel
theorem dX8_ifFair_37 : decode cX8_ifFair 37 = .ok (.goto 9, 3) := by decide +kernel
theorem dX8_ifFair_40 : decode cX8_ifFair 40 = .ok (.aload_n 0, 1) := by decide +kernel
theorem dX8_ifFair_41 : decode cX8_ifFair 41 = .ok (.iload_n 1, 1) := by decide +kernel
theorem dX8_ifFair_42 : decode cX8_ifFair 42 = .ok (.iload_n 2, 1) := by decide +kernel
theorem dX8_ifFair_43 : decode cX8_ifFair 43 = .ok (.invokevirtual 228, 3) := by decide +kernel
theorem dX8_ifFair_46 : decode cX8_ifFair 46 = .ok (.ireturn, 1) := by decide +kernel
theorem dX8_share_0 : decode cX8_share 0 = .ok (.aload_n 0, 1) := by decide +kernel
theorem dX8_share_1 : decode cX8_share 1 = .ok (.getfield 7, 3) := by decide +kernel
theorem dX8_share_4 : decode cX8_share 4 = .ok (.iconst 0, 1) := by decide +kernel
theorem dX8_share_5 : decode cX8_share 5 = .ok (.iaload, 1) := by decide +kernel
theorem dX8_share_6 : decode cX8_share 6 = .ok (.aload_n 0, 1) := by decide +kernel
theorem dX8_share_7 : decode cX8_share 7 = .ok (.invokevirtual 203, 3) := by decide +kernel
theorem dX8_share_10 : decode cX8_share 10 = .ok (.imul, 1) := by decide +kernel
theorem dX8_share_11 : decode cX8_share 11 = .ok (.istore_n 1, 1) := by decide +kernel
theorem dX8_share_12 : decode cX8_share 12 = .ok (.iconst 0, 1) := by decide +kernel
theorem dX8_share_13 : decode cX8_share 13 = .ok (.istore_n 2, 1) := by decide +kernel
theorem dX8_share_14 : decode cX8_share 14 = .ok (.iconst 0, 1) := by decide +kernel
theorem dX8_share_15 : decode cX8_share 15 = .ok (.istore_n 3, 1) := by decide +kernel
theorem dX8_share_16 : decode cX8_share 16 = .ok (.iload_n 3, 1) := by decide +kernel
theorem dX8_share_17 : decode cX8_share 17 = .ok (.aload_n 0, 1) := by decide +kernel
theorem dX8_share_18 : decode cX8_share 18 = .ok (.getfield 7, 3) := by decide +kernel
theorem dX8_share_21 : decode cX8_share 21 = .ok (.iconst 0, 1) := by decide +kernel
theorem dX8_share_22 : decode cX8_share 22 = .ok (.iaload, 1) := by decide +kernel
theorem dX8_share_23 : decode cX8_share 23 = .ok (.if_icmp .ge 20, 3) := by decide +kernel
theorem dX8_share_26 : decode cX8_share 26 = .ok (.iload_n 2, 1) := by decide +kernel
theorem dX8_share_27 : decode cX8_share 27 = .ok (.aload_n 0, 1) := by decide +kernel
theorem dX8_share_28 : decode cX8_share 28 = .ok (.iload_n 3, 1) := by decide +kernel
theorem dX8_share_29 : decode cX8_share 29 = .ok (.invokevirtual 147, 3) := by decide +kernel
theorem dX8_share_32 : decode cX8_share 32 = .ok (.invokestatic 59, 3) := by decide +kernel
theorem dX8_share_35 : decode cX8_share 35 = .ok (.iadd, 1) := by decide +kernel
theorem dX8_share_36 : decode cX8_share 36 = .ok (.istore_n 2, 1) := by decide +kernel
theorem dX8_share_37 : decode cX8_share 37 = .ok (.iinc 3 1, 3) := by decide +kernel
theorem dX8_share_40 : decode cX8_share 40 = .ok (.goto (-24), 3) := by decide +kernel
theorem dX8_share_43 : decode cX8_share 43 = .ok (.iload_n 1, 1) := by decide +kernel
theorem dX8_share_44 : decode cX8_share 44 = .ok (.ifCond .ne 7, 3) := by decide +kernel
theorem dX8_share_47 : decode cX8_share 47 = .ok (.dconst 1, 1) := by decide +kernel
theorem dX8_share_48 : decode cX8_share 48 = .ok (.goto 8, 3) := by decide +kernel
theorem dX8_share_51 : decode cX8_share 51 = .ok (.iload_n 2, 1) := by decide +kernel
theorem dX8_share_52 : decode cX8_share 52 = .ok (.i2d, 1) := by decide +kernel
theorem dX8_share_53 : decode cX8_share 53 = .ok (.iload_n 1, 1) := by decide +kernel
theorem dX8_share_54 : decode cX8_share 54 = .ok (.i2d, 1) := by decide +kernel
theorem dX8_share_55 : decode cX8_share 55 = .ok (.ddiv, 1) := by decide +kernel
theorem dX8_share_56 : decode cX8_share 56 = .ok (.dreturn, 1) := by decide +kernel
theorem dX8_fulfilled_0 : decode cX8_fulfilled 0 = .ok (.aload_n 0, 1) := by decide +kernel
theorem dX8_fulfilled_1 : decode cX8_fulfilled 1 = .ok (.iconst 0, 1) := by decide +kernel
theorem dX8_fulfilled_2 : decode cX8_fulfilled 2 = .ok (.putfield 37, 3) := by decide +kernel
theorem dX8_fulfilled_5 : decode cX8_fulfilled 5 = .ok (.aload_n 0, 1) := by decide +kernel
theorem dX8_fulfilled_6 : decode cX8_fulfilled 6 = .ok (.invokevirtual 231, 3) := by decide +kernel
theorem dX8_fulfilled_9 : decode cX8_fulfilled 9 = .ok (.dreturn, 1) := by decide +kernel
theorem dX8_bitsOf_0 : decode cX8_bitsOf 0 = .ok (.dload_n 0, 1) := by decide +kernel
theorem dX8_bitsOf_1 : decode cX8_bitsOf 1 = .ok (.dconst 0, 1) := by decide +kernel
theorem dX8_bitsOf_2 : decode cX8_bitsOf 2 = .ok (.dcmp .l, 1) := by decide +kernel
theorem dX8_bitsOf_3 : decode cX8_bitsOf 3 = .ok (.ifCond .ne 5, 3) := by decide +kernel
theorem dX8_bitsOf_6 : decode cX8_bitsOf 6 = .ok (.lconst 0, 1) := by decide +kernel
theorem dX8_bitsOf_7 : decode cX8_bitsOf 7 = .ok (.lreturn, 1) := by decide +kernel
theorem dX8_bitsOf_8 : decode cX8_bitsOf 8 = .ok (.dload_n 0, 1) := by decide +kernel
theorem dX8_bitsOf_9 : decode cX8_bitsOf 9 = .ok (.dstore_n 2, 1) := by decide +kernel
theorem dX8_bitsOf_10 : decode cX8_bitsOf 10 = .ok (.ldc2_w 235, 3) := by decide +kernel
theorem dX8_bitsOf_13 : decode cX8_bitsOf 13 = .ok (.lstore 4, 2) := by decide +kernel
theorem dX8_bitsOf_15 : decode cX8_bitsOf 15 = .ok (.dload_n 2, 1) := by decide +kernel
theorem dX8_bitsOf_16 : decode cX8_bitsOf 16 = .ok (.ldc2_w 237, 3) := by decide +kernel
theorem dX8_bitsOf_19 : decode cX8_bitsOf 19 = .ok (.dcmp .l, 1) := by decide +kernel
theorem dX8_bitsOf_20 : decode cX8_bitsOf 20 = .ok (.ifCond .lt 18, 3) := by decide +kernel
theorem dX8_bitsOf_23 : decode cX8_bitsOf 23 = .ok (.dload_n 2, 1) := by decide +kernel
theorem dX8_bitsOf_24 : decode cX8_bitsOf 24 = .ok (.ldc2_w 237, 3) := by decide +kernel
theorem dX8_bitsOf_27 : decode cX8_bitsOf 27 = .ok (.ddiv, 1) := by decide +kernel
theorem dX8_bitsOf_28 : decode cX8_bitsOf 28 = .ok (.dstore_n 2, 1) := by decide +kernel
theorem dX8_bitsOf_29 : decode cX8_bitsOf 29 = .ok (.lload 4, 2) := by decide +kernel
theorem dX8_bitsOf_31 : decode cX8_bitsOf 31 = .ok (.lconst 1, 1) := by decide +kernel
theorem dX8_bitsOf_32 : decode cX8_bitsOf 32 = .ok (.ladd, 1) := by decide +kernel
theorem dX8_bitsOf_33 : decode cX8_bitsOf 33 = .ok (.lstore 4, 2) := by decide +kernel
theorem dX8_bitsOf_35 : decode cX8_bitsOf 35 = .ok (.goto (-20), 3) := by decide +kernel
theorem dX8_bitsOf_38 : decode cX8_bitsOf 38 = .ok (.dload_n 2, 1) := by decide +kernel
theorem dX8_bitsOf_39 : decode cX8_bitsOf 39 = .ok (.dconst 1, 1) := by decide +kernel
theorem dX8_bitsOf_40 : decode cX8_bitsOf 40 = .ok (.dcmp .g, 1) := by decide +kernel
theorem dX8_bitsOf_41 : decode cX8_bitsOf 41 = .ok (.ifCond .ge 18, 3) := by decide +kernel
theorem dX8_bitsOf_44 : decode cX8_bitsOf 44 = .ok (.dload_n 2, 1) := by decide +kernel
theorem dX8_bitsOf_45 : decode cX8_bitsOf 45 = .ok (.ldc2_w 237, 3) := by decide +kernel
theorem dX8_bitsOf_48 : decode cX8_bitsOf 48 = .ok (.dmul, 1) := by decide +kernel
theorem dX8_bitsOf_49 : decode cX8_bitsOf 49 = .ok (.dstore_n 2, 1) := by decide +kernel
theorem dX8_bitsOf_50 : decode cX8_bitsOf 50 = .ok (.lload 4, 2) := by decide +kernel
theorem dX8_bitsOf_52 : decode cX8_bitsOf 52 = .ok (.lconst 1, 1) := by decide +kernel
theorem dX8_bitsOf_53 : decode cX8_bitsOf 53 = .ok (.lsub, 1) := by decide +kernel
theorem dX8_bitsOf_54 : decode cX8_bitsOf 54 = .ok (.lstore 4, 2) := by decide +kernel
theorem dX8_bitsOf_56 : decode cX8_bitsOf 56 = .ok (.goto (-18), 3) := by decide +kernel
theorem dX8_bitsOf_59 : decode cX8_bitsOf 59 = .ok (.lload 4, 2) := by decide +kernel
theorem dX8_bitsOf_61 : decode cX8_bitsOf 61 = .ok (.bipush 52, 2) := by decide +kernel
theorem dX8_bitsOf_63 : decode cX8_bitsOf 63 = .ok (.lshl, 1) := by decide +kernel
theorem dX8_bitsOf_64 : decode cX8_bitsOf 64 = .ok (.dload_n 2, 1) := by decide +kernel
theorem dX8_bitsOf_65 : decode cX8_bitsOf 65 = .ok (.ldc2_w 239, 3) := by decide +kernel
theorem dX8_bitsOf_68 : decode cX8_bitsOf 68 = .ok (.dmul, 1) := by decide +kernel
theorem dX8_bitsOf_69 : decode cX8_bitsOf 69 = .ok (.d2l, 1) := by decide +kernel
theorem dX8_bitsOf_70 : decode cX8_bitsOf 70 = .ok (.ladd, 1) := by decide +kernel
theorem dX8_bitsOf_71 : decode cX8_bitsOf 71 = .ok (.ldc2_w 241, 3) := by decide +kernel
theorem dX8_bitsOf_74 : decode cX8_bitsOf 74 = .ok (.lsub, 1) := by decide +kernel
theorem dX8_bitsOf_75 : decode cX8_bitsOf 75 = .ok (.lreturn, 1) := by decide +kernel
theorem dX8_mix_0 : decode cX8_mix 0 = .ok (.aload_n 0, 1) := by decide +kernel
theorem dX8_mix_1 : decode cX8_mix 1 = .ok (.ldc2_w 243, 3) := by decide +kernel
theorem dX8_mix_4 : decode cX8_mix 4 = .ok (.aload_n 0, 1) := by decide +kernel
theorem dX8_mix_5 : decode cX8_mix 5 = .ok (.getfield 245, 3) := by decide +kernel
theorem dX8_mix_8 : decode cX8_mix 8 = .ok (.lmul, 1) := by decide +kernel
theorem dX8_mix_9 : decode cX8_mix 9 = .ok (.lload_n 1, 1) := by decide +kernel
theorem dX8_mix_10 : decode cX8_mix 10 = .ok (.ladd, 1) := by decide +kernel
theorem dX8_mix_11 : decode cX8_mix 11 = .ok (.putfield 245, 3) := by decide +kernel
theorem dX8_mix_14 : decode cX8_mix 14 = .ok (.return_, 1) := by decide +kernel
theorem dX8_mixWish_0 : decode cX8_mixWish 0 = .ok (.iconst 0, 1) := by decide +kernel
theorem dX8_mixWish_1 : decode cX8_mixWish 1 = .ok (.istore_n 2, 1) := by decide +kernel
theorem dX8_mixWish_2 : decode cX8_mixWish 2 = .ok (.iload_n 2, 1) := by decide +kernel
theorem dX8_mixWish_3 : decode cX8_mixWish 3 = .ok (.iconst 3, 1) := by decide +kernel
theorem dX8_mixWish_4 : decode cX8_mixWish 4 = .ok (.if_icmp .gt 20, 3) := by decide +kernel
theorem dX8_mixWish_7 : decode cX8_mixWish 7 = .ok (.aload_n 0, 1) := by decide +kernel
theorem dX8_mixWish_8 : decode cX8_mixWish 8 = .ok (.aload_n 0, 1) := by decide +kernel
theorem dX8_mixWish_9 : decode cX8_mixWish 9 = .ok (.iload_n 1, 1) := by decide +kernel
theorem dX8_mixWish_10 : decode cX8_mixWish 10 = .ok (.iload_n 2, 1) := by decide +kernel
theorem dX8_mixWish_11 : decode cX8_mixWish 11 = .ok (.invokevirtual 156, 3) := by decide +kernel
theorem dX8_mixWish_14 : decode cX8_mixWish 14 = .ok (.i2l, 1) := by decide +kernel
theorem dX8_mixWish_15 : decode cX8_mixWish 15 = .ok (.invokevirtual 249, 3) := by decide +kernel
theorem dX8_mixWish_18 : decode cX8_mixWish 18 = .ok (.iinc 2 1, 3) := by decide +kernel
theorem dX8_mixWish_21 : decode cX8_mixWish 21 = .ok (.goto (-19), 3) := by decide +kernel
theorem dX8_mixWish_24 : decode cX8_mixWish 24 = .ok (.iconst 0, 1) := by decide +kernel
theorem dX8_mixWish_25 : decode cX8_mixWish 25 = .ok (.istore_n 2, 1) := by decide +kernel
theorem dX8_mixWish_26 : decode cX8_mixWish 26 = .ok (.iload_n 2, 1) := by decide +kernel
theorem dX8_mixWish_27 : decode cX8_mixWish 27 = .ok (.aload_n 0, 1) := by decide +kernel
theorem dX8_mixWish_28 : decode cX8_mixWish 28 = .ok (.iload_n 1, 1) := by decide +kernel
theorem dX8_mixWish_29 : decode cX8_mixWish 29 = .ok (.invokevirtual 101, 3) := by decide +kernel
theorem dX8_mixWish_32 : decode cX8_mixWish 32 = .ok (.if_icmp .ge 34, 3) := by decide +kernel
theorem dX8_mixWish_35 : decode cX8_mixWish 35 = .ok (.iconst 0, 1) := by decide +kernel
theorem dX8_mixWish_36 : decode cX8_mixWish 36 = .ok (.istore_n 3, 1) := by decide +kernel
theorem dX8_mixWish_37 : decode cX8_mixWish 37 = .ok (.iload_n 3, 1) := by decide +kernel
theorem dX8_mixWish_38 : decode cX8_mixWish 38 = .ok (.iconst 3, 1) := by decide +kernel
theorem dX8_mixWish_39 : decode cX8_mixWish 39 = .ok (.if_icmp .gt 21, 3) := by decide +kernel
theorem dX8_mixWish_42 : decode cX8_mixWish 42 = .ok (.aload_n 0, 1) := by decide +kernel
theorem dX8_mixWish_43 : decode cX8_mixWish 43 = .ok (.aload_n 0, 1) := by decide +kernel
theorem dX8_mixWish_44 : decode cX8_mixWish 44 = .ok (.iload_n 1, 1) := by decide +kernel
theorem dX8_mixWish_45 : decode cX8_mixWish 45 = .ok (.iload_n 2, 1) := by decide +kernel
theorem dX8_mixWish_46 : decode cX8_mixWish 46 = .ok (.iload_n 3, 1) := by decide +kernel
theorem dX8_mixWish_47 : decode cX8_mixWish 47 = .ok (.invokevirtual 159, 3) := by decide +kernel
theorem dX8_mixWish_50 : decode cX8_mixWish 50 = .ok (.i2l, 1) := by decide +kernel
theorem dX8_mixWish_51 : decode cX8_mixWish 51 = .ok (.invokevirtual 249, 3) := by decide +kernel
theorem dX8_mixWish_54 : decode cX8_mixWish 54 = .ok (.iinc 3 1, 3) := by decide +kernel
theorem dX8_mixWish_57 : decode cX8_mixWish 57 = .ok (.goto (-20), 3) := by decide +kernel
theorem dX8_mixWish_60 : decode cX8_mixWish 60 = .ok (.iinc 2 1, 3) := by decide +kernel
theorem dX8_mixWish_63 : decode cX8_mixWish 63 = .ok (.goto (-37), 3) := by decide +kernel
theorem dX8_mixWish_66 : decode cX8_mixWish 66 = .ok (.iconst 0, 1) := by decide +kernel
theorem dX8_mixWish_67 : decode cX8_mixWish 67 = .ok (.istore_n 2, 1) := by decide +kernel
theorem dX8_mixWish_68 : decode cX8_mixWish 68 = .ok (.iload_n 2, 1) := by decide +kernel
theorem dX8_mixWish_69 : decode cX8_mixWish 69 = .ok (.aload_n 0, 1) := by decide +kernel
theorem dX8_mixWish_70 : decode cX8_mixWish 70 = .ok (.getfield 7, 3) := by decide +kernel
theorem dX8_mixWish_73 : decode cX8_mixWish 73 = .ok (.iconst 0, 1) := by decide +kernel
theorem dX8_mixWish_74 : decode cX8_mixWish 74 = .ok (.iaload, 1) := by decide +kernel
theorem dX8_mixWish_75 : decode cX8_mixWish 75 = .ok (.if_icmp .ge 34, 3) := by decide +kernel
theorem dX8_mixWish_78 : decode cX8_mixWish 78 = .ok (.iconst 0, 1) := by decide +kernel
theorem dX8_mixWish_79 : decode cX8_mixWish 79 = .ok (.istore_n 3, 1) := by decide +kernel
theorem dX8_mixWish_80 : decode cX8_mixWish 80 = .ok (.iload_n 3, 1) := by decide +kernel
theorem dX8_mixWish_81 : decode cX8_mixWish 81 = .ok (.iconst 3, 1) := by decide +kernel
theorem dX8_mixWish_82 : decode cX8_mixWish 82 = .ok (.if_icmp .gt 21, 3) := by decide +kernel
theorem dX8_mixWish_85 : decode cX8_mixWish 85 = .ok (.aload_n 0, 1) := by decide +kernel
theorem dX8_mixWish_86 : decode cX8_mixWish 86 = .ok (.aload_n 0, 1) := by decide +kernel
theorem dX8_mixWish_87 : decode cX8_mixWish 87 = .ok (.iload_n 1, 1) := by decide +kernel
theorem dX8_mixWish_88 : decode cX8_mixWish 88 = .ok (.iload_n 2, 1) := by decide +kernel
theorem dX8_mixWish_89 : decode cX8_mixWish 89 = .ok (.iload_n 3, 1) := by decide +kernel
theorem dX8_mixWish_90 : decode cX8_mixWish 90 = .ok (.invokevirtual 194, 3) := by decide +kernel
theorem dX8_mixWish_93 : decode cX8_mixWish 93 = .ok (.i2l, 1) := by decide +kernel
theorem dX8_mixWish_94 : decode cX8_mixWish 94 = .ok (.invokevirtual 249, 3) := by decide +kernel
theorem dX8_mixWish_97 : decode cX8_mixWish 97 = .ok (.iinc 3 1, 3) := by decide +kernel
theorem dX8_mixWish_100 : decode cX8_mixWish 100 = .ok (.goto (-20), 3) := by decide +kernel
theorem dX8_mixWish_103 : decode cX8_mixWish 103 = .ok (.iinc 2 1, 3) := by decide +kernel
theorem dX8_mixWish_106 : decode cX8_mixWish 106 = .ok (.goto (-38), 3) := by decide +kernel
theorem dX8_mixWish_109 : decode cX8_mixWish 109 = .ok (.aload_n 0, 1) := by decide +kernel
theorem dX8_mixWish_110 : decode cX8_mixWish 110 = .ok (.aload_n 0, 1) := by decide +kernel
theorem dX8_mixWish_111 : decode cX8_mixWish 111 = .ok (.iload_n 1, 1) := by decide +kernel
theorem dX8_mixWish_112 : decode cX8_mixWish 112 = .ok (.iconst 0, 1) := by decide +kernel
theorem dX8_mixWish_113 : decode cX8_mixWish 113 = .ok (.invokevirtual 197, 3) := by decide +kernel
theorem dX8_mixWish_116 : decode cX8_mixWish 116 = .ok (.i2l, 1) := by decide +kernel
theorem dX8_mixWish_117 : decode cX8_mixWish 117 = .ok (.invokevirtual 249, 3) := by decide +kernel
theorem dX8_mixWish_120 : decode cX8_mixWish 120 = .ok (.aload_n 0, 1) := by decide +kernel
theorem dX8_mixWish_121 : decode cX8_mixWish 121 = .ok (.aload_n 0, 1) := by decide +kernel
theorem dX8_mixWish_122 : decode cX8_mixWish 122 = .ok (.iload_n 1, 1) := by decide +kernel
theorem dX8_mixWish_123 : decode cX8_mixWish 123 = .ok (.iconst (-1), 1) := by decide +kernel
theorem dX8_mixWish_124 : decode cX8_mixWish 124 = .ok (.invokevirtual 228, 3) := by decide +kernel
theorem dX8_mixWish_127 : decode cX8_mixWish 127 = .ok (.i2l, 1) := by decide +kernel
theorem dX8_mixWish_128 : decode cX8_mixWish 128 = .ok (.invokevirtual 249, 3) := by decide +kernel
theorem dX8_mixWish_131 : decode cX8_mixWish 131 = .ok (.aload_n 0, 1) := by decide +kernel
theorem dX8_mixWish_132 : decode cX8_mixWish 132 = .ok (.aload_n 0, 1) := by decide +kernel
theorem dX8_mixWish_133 : decode cX8_mixWish 133 = .ok (.iload_n 1, 1) := by decide +kernel
theorem dX8_mixWish_134 : decode cX8_mixWish 134 = .ok (.iconst 0, 1) := by decide +kernel
theorem dX8_mixWish_135 : decode cX8_mixWish 135 = .ok (.invokevirtual 228, 3) := by decide +kernel
theorem dX8_mixWish_138 : decode cX8_mixWish 138 = .ok (.i2l, 1) := by decide +kernel
theorem dX8_mixWish_139 : decode cX8_mixWish 139 = .ok (.invokevirtual 249, 3) := by decide +kernel
theorem dX8_mixWish_142 : decode cX8_mixWish 142 = .ok (.iconst 0, 1) := by decide +kernel
theorem dX8_mixWish_143 : decode cX8_mixWish 143 = .ok (.istore_n 2, 1) := by decide +kernel
theorem dX8_mixWish_144 : decode cX8_mixWish 144 = .ok (.iload_n 2, 1) := by decide +kernel
theorem dX8_mixWish_145 : decode cX8_mixWish 145 = .ok (.iconst 3, 1) := by decide +kernel
theorem dX8_mixWish_146 : decode cX8_mixWish 146 = .ok (.if_icmp .gt 30, 3) := by decide +kernel
theorem dX8_mixWish_149 : decode cX8_mixWish 149 = .ok (.aload_n 0, 1) := by decide +kernel
theorem dX8_mixWish_150 : decode cX8_mixWish 150 = .ok (.getfield 7, 3) := by decide +kernel
theorem dX8_mixWish_153 : decode cX8_mixWish 153 = .ok (.iconst 0, 1) := by decide +kernel
theorem dX8_mixWish_154 : decode cX8_mixWish 154 = .ok (.iaload, 1) := by decide +kernel
theorem dX8_mixWish_155 : decode cX8_mixWish 155 = .ok (.ifCond .le 21, 3) := by decide +kernel
theorem dX8_mixWish_158 : decode cX8_mixWish 158 = .ok (.aload_n 0, 1) := by decide +kernel
theorem dX8_mixWish_159 : decode cX8_mixWish 159 = .ok (.aload_n 0, 1) := by decide +kernel
theorem dX8_mixWish_160 : decode cX8_mixWish 160 = .ok (.iload_n 1, 1) := by decide +kernel
theorem dX8_mixWish_161 : decode cX8_mixWish 161 = .ok (.iconst 0, 1) := by decide +kernel
theorem dX8_mixWish_162 : decode cX8_mixWish 162 = .ok (.iload_n 2, 1) := by decide +kernel
theorem dX8_mixWish_163 : decode cX8_mixWish 163 = .ok (.invokevirtual 225, 3) := by decide +kernel
theorem dX8_mixWish_166 : decode cX8_mixWish 166 = .ok (.i2l, 1) := by decide +kernel
theorem dX8_mixWish_167 : decode cX8_mixWish 167 = .ok (.invokevirtual 249, 3) := by decide +kernel
theorem dX8_mixWish_170 : decode cX8_mixWish 170 = .ok (.iinc 2 1, 3) := by decide +kernel
theorem dX8_mixWish_173 : decode cX8_mixWish 173 = .ok (.goto (-29), 3) := by decide +kernel
theorem dX8_mixWish_176 : decode cX8_mixWish 176 = .ok (.return_, 1) := by decide +kernel
theorem dX8_digest_0 : decode cX8_digest 0 = .ok (.aload_n 0, 1) := by decide +kernel
theorem dX8_digest_1 : decode cX8_digest 1 = .ok (.iconst 0, 1) := by decide +kernel
theorem dX8_digest_2 : decode cX8_digest 2 = .ok (.putfield 37, 3) := by decide +kernel
theorem dX8_digest_5 : decode cX8_digest 5 = .ok (.aload_n 0, 1) := by decide +kernel
theorem dX8_digest_6 : decode cX8_digest 6 = .ok (.ldc2_w 253, 3) := by decide +kernel
theorem dX8_digest_9 : decode cX8_digest 9 = .ok (.putfield 245, 3) := by decide +kernel
theorem dX8_digest_12 : decode cX8_digest 12 = .ok (.iconst 0, 1) := by decide +kernel
theorem dX8_digest_13 : decode cX8_digest 13 = .ok (.istore_n 1, 1) := by decide +kernel
theorem dX8_digest_14 : decode cX8_digest 14 = .ok (.iload_n 1, 1) := by decide +kernel
theorem dX8_digest_15 : decode cX8_digest 15 = .ok (.bipush 8, 2) := by decide +kernel
theorem dX8_digest_17 : decode cX8_digest 17 = .ok (.if_icmp .gt 19, 3) := by decide +kernel
theorem dX8_digest_20 : decode cX8_digest 20 = .ok (.aload_n 0, 1) := by decide +kernel
theorem dX8_digest_21 : decode cX8_digest 21 = .ok (.aload_n 0, 1) := by decide +kernel
theorem dX8_digest_22 : decode cX8_digest 22 = .ok (.iload_n 1, 1) := by decide +kernel
theorem dX8_digest_23 : decode cX8_digest 23 = .ok (.invokevirtual 212, 3) := by decide +kernel
theorem dX8_digest_26 : decode cX8_digest 26 = .ok (.i2l, 1) := by decide +kernel
theorem dX8_digest_27 : decode cX8_digest 27 = .ok (.invokevirtual 249, 3) := by decide +kernel
theorem dX8_digest_30 : decode cX8_digest 30 = .ok (.iinc 1 1, 3) := by decide +kernel
theorem dX8_digest_33 : decode cX8_digest 33 = .ok (.goto (-19), 3) := by decide +kernel
theorem dX8_digest_36 : decode cX8_digest 36 = .ok (.iconst 0, 1) := by decide +kernel
theorem dX8_digest_37 : decode cX8_digest 37 = .ok (.istore_n 1, 1) := by decide +kernel
theorem dX8_digest_38 : decode cX8_digest 38 = .ok (.iload_n 1, 1) := by decide +kernel
theorem dX8_digest_39 : decode cX8_digest 39 = .ok (.aload_n 0, 1) := by decide +kernel
theorem dX8_digest_40 : decode cX8_digest 40 = .ok (.getfield 7, 3) := by decide +kernel
theorem dX8_digest_43 : decode cX8_digest 43 = .ok (.iconst 0, 1) := by decide +kernel
theorem dX8_digest_44 : decode cX8_digest 44 = .ok (.iaload, 1) := by decide +kernel
theorem dX8_digest_45 : decode cX8_digest 45 = .ok (.if_icmp .ge 33, 3) := by decide +kernel
theorem dX8_digest_48 : decode cX8_digest 48 = .ok (.iconst 0, 1) := by decide +kernel
theorem dX8_digest_49 : decode cX8_digest 49 = .ok (.istore_n 2, 1) := by decide +kernel
theorem dX8_digest_50 : decode cX8_digest 50 = .ok (.iload_n 2, 1) := by decide +kernel
theorem dX8_digest_51 : decode cX8_digest 51 = .ok (.iconst 4, 1) := by decide +kernel
theorem dX8_digest_52 : decode cX8_digest 52 = .ok (.if_icmp .gt 20, 3) := by decide +kernel
theorem dX8_digest_55 : decode cX8_digest 55 = .ok (.aload_n 0, 1) := by decide +kernel
theorem dX8_digest_56 : decode cX8_digest 56 = .ok (.aload_n 0, 1) := by decide +kernel
theorem dX8_digest_57 : decode cX8_digest 57 = .ok (.iload_n 1, 1) := by decide +kernel
theorem dX8_digest_58 : decode cX8_digest 58 = .ok (.iload_n 2, 1) := by decide +kernel
theorem dX8_digest_59 : decode cX8_digest 59 = .ok (.invokevirtual 150, 3) := by decide +kernel
theorem dX8_digest_62 : decode cX8_digest 62 = .ok (.i2l, 1) := by decide +kernel
theorem dX8_digest_63 : decode cX8_digest 63 = .ok (.invokevirtual 249, 3) := by decide +kernel
theorem dX8_digest_66 : decode cX8_digest 66 = .ok (.iinc 2 1, 3) := by decide +kernel
theorem dX8_digest_69 : decode cX8_digest 69 = .ok (.goto (-19), 3) := by decide +kernel
theorem dX8_digest_72 : decode cX8_digest 72 = .ok (.iinc 1 1, 3) := by decide +kernel
theorem dX8_digest_75 : decode cX8_digest 75 = .ok (.goto (-37), 3) := by decide +kernel
theorem dX8_digest_78 : decode cX8_digest 78 = .ok (.iconst 0, 1) := by decide +kernel
theorem dX8_digest_79 : decode cX8_digest 79 = .ok (.istore_n 1, 1) := by decide +kernel
theorem dX8_digest_80 : decode cX8_digest 80 = .ok (.iload_n 1, 1) := by decide +kernel
theorem dX8_digest_81 : decode cX8_digest 81 = .ok (.iconst 4, 1) := by decide +kernel
theorem dX8_digest_82 : decode cX8_digest 82 = .ok (.if_icmp .ge 14, 3) := by decide +kernel
theorem dX8_digest_85 : decode cX8_digest 85 = .ok (.aload_n 0, 1) := by decide +kernel
theorem dX8_digest_86 : decode cX8_digest 86 = .ok (.iload_n 1, 1) := by decide +kernel
theorem dX8_digest_87 : decode cX8_digest 87 = .ok (.invokevirtual 255, 3) := by decide +kernel
theorem dX8_digest_90 : decode cX8_digest 90 = .ok (.iinc 1 1, 3) := by decide +kernel
theorem dX8_digest_93 : decode cX8_digest 93 = .ok (.goto (-13), 3) := by decide +kernel
theorem dX8_digest_96 : decode cX8_digest 96 = .ok (.aload_n 0, 1) := by decide +kernel
theorem dX8_digest_97 : decode cX8_digest 97 = .ok (.aload_n 0, 1) := by decide +kernel
theorem dX8_digest_98 : decode cX8_digest 98 = .ok (.invokevirtual 231, 3) := by decide +kernel
theorem dX8_digest_101 : decode cX8_digest 101 = .ok (.invokestatic 258, 3) := by decide +kernel
theorem dX8_digest_104 : decode cX8_digest 104 = .ok (.invokevirtual 249, 3) := by decide +kernel
theorem dX8_digest_107 : decode cX8_digest 107 = .ok (.aload_n 0, 1) := by decide +kernel
theorem dX8_digest_108 : decode cX8_digest 108 = .ok (.aload_n 0, 1) := by decide +kernel
theorem dX8_digest_109 : decode cX8_digest 109 = .ok (.getfield 118, 3) := by decide +kernel
theorem dX8_digest_112 : decode cX8_digest 112 = .ok (.i2l, 1) := by decide +kernel
theorem dX8_digest_113 : decode cX8_digest 113 = .ok (.invokevirtual 249, 3) := by decide +kernel
theorem dX8_digest_116 : decode cX8_digest 116 = .ok (.iconst 0, 1) := by decide +kernel
theorem dX8_digest_117 : decode cX8_digest 117 = .ok (.istore_n 1, 1) := by decide +kernel
theorem dX8_digest_118 : decode cX8_digest 118 = .ok (.iload_n 1, 1) := by decide +kernel
theorem dX8_digest_119 : decode cX8_digest 119 = .ok (.aload_n 0, 1) := by decide +kernel
theorem dX8_digest_120 : decode cX8_digest 120 = .ok (.getfield 118, 3) := by decide +kernel
theorem dX8_digest_123 : decode cX8_digest 123 = .ok (.if_icmp .ge 20, 3) := by decide +kernel
theorem dX8_digest_126 : decode cX8_digest 126 = .ok (.aload_n 0, 1) := by decide +kernel
theorem dX8_digest_127 : decode cX8_digest 127 = .ok (.aload_n 0, 1) := by decide +kernel
theorem dX8_digest_128 : decode cX8_digest 128 = .ok (.getfield 16, 3) := by decide +kernel
theorem dX8_digest_131 : decode cX8_digest 131 = .ok (.iload_n 1, 1) := by decide +kernel
theorem dX8_digest_132 : decode cX8_digest 132 = .ok (.iaload, 1) := by decide +kernel
theorem dX8_digest_133 : decode cX8_digest 133 = .ok (.i2l, 1) := by decide +kernel
theorem dX8_digest_134 : decode cX8_digest 134 = .ok (.invokevirtual 249, 3) := by decide +kernel
theorem dX8_digest_137 : decode cX8_digest 137 = .ok (.iinc 1 1, 3) := by decide +kernel
theorem dX8_digest_140 : decode cX8_digest 140 = .ok (.goto (-22), 3) := by decide +kernel
theorem dX8_digest_143 : decode cX8_digest 143 = .ok (.aload_n 0, 1) := by decide +kernel
theorem dX8_digest_144 : decode cX8_digest 144 = .ok (.getfield 245, 3) := by decide +kernel
theorem dX8_digest_147 : decode cX8_digest 147 = .ok (.lreturn, 1) := by decide +kernel
theorem dJ6_bitCount_0f7a4_0 : decode cJ6_bitCount_0f7a4 0 = .ok (.iload_n 0, 1) := by decide +kernel
theorem dJ6_bitCount_0f7a4_1 : decode cJ6_bitCount_0f7a4 1 = .ok (.iload_n 0, 1) := by decide +kernel
theorem dJ6_bitCount_0f7a4_2 : decode cJ6_bitCount_0f7a4 2 = .ok (.iconst 1, 1) := by decide +kernel
theorem dJ6_bitCount_0f7a4_3 : decode cJ6_bitCount_0f7a4 3 = .ok (.iushr, 1) := by decide +kernel
theorem dJ6_bitCount_0f7a4_4 : decode cJ6_bitCount_0f7a4 4 = .ok (.ldc_w 265, 3) := by decide +kernel
theorem dJ6_bitCount_0f7a4_7 : decode cJ6_bitCount_0f7a4 7 = .ok (.iand, 1) := by decide +kernel
theorem dJ6_bitCount_0f7a4_8 : decode cJ6_bitCount_0f7a4 8 = .ok (.isub, 1) := by decide +kernel
theorem dJ6_bitCount_0f7a4_9 : decode cJ6_bitCount_0f7a4 9 = .ok (.istore_n 0, 1) := by decide +kernel
theorem dJ6_bitCount_0f7a4_10 : decode cJ6_bitCount_0f7a4 10 = .ok (.iload_n 0, 1) := by decide +kernel
theorem dJ6_bitCount_0f7a4_11 : decode cJ6_bitCount_0f7a4 11 = .ok (.ldc_w 266, 3) := by decide +kernel
theorem dJ6_bitCount_0f7a4_14 : decode cJ6_bitCount_0f7a4 14 = .ok (.iand, 1) := by decide +kernel
theorem dJ6_bitCount_0f7a4_15 : decode cJ6_bitCount_0f7a4 15 = .ok (.iload_n 0, 1) := by decide +kernel
theorem dJ6_bitCount_0f7a4_16 : decode cJ6_bitCount_0f7a4 16 = .ok (.iconst 2, 1) := by decide +kernel
theorem dJ6_bitCount_0f7a4_17 : decode cJ6_bitCount_0f7a4 17 = .ok (.iushr, 1) := by decide +kernel
theorem dJ6_bitCount_0f7a4_18 : decode cJ6_bitCount_0f7a4 18 = .ok (.ldc_w 266, 3) := by decide +kernel
theorem dJ6_bitCount_0f7a4_21 : decode cJ6_bitCount_0f7a4 21 = .ok (.iand, 1) := by decide +kernel
theorem dJ6_bitCount_0f7a4_22 : decode cJ6_bitCount_0f7a4 22 = .ok (.iadd, 1) := by decide +kernel
theorem dJ6_bitCount_0f7a4_23 : decode cJ6_bitCount_0f7a4 23 = .ok (.istore_n 0, 1) := by decide +kernel
theorem dJ6_bitCount_0f7a4_24 : decode cJ6_bitCount_0f7a4 24 = .ok (.iload_n 0, 1) := by decide +kernel
theorem dJ6_bitCount_0f7a4_25 : decode cJ6_bitCount_0f7a4 25 = .ok (.iload_n 0, 1) := by decide +kernel
theorem dJ6_bitCount_0f7a4_26 : decode cJ6_bitCount_0f7a4 26 = .ok (.iconst 4, 1) := by decide +kernel
theorem dJ6_bitCount_0f7a4_27 : decode cJ6_bitCount_0f7a4 27 = .ok (.iushr, 1) := by decide +kernel
theorem dJ6_bitCount_0f7a4_28 : decode cJ6_bitCount_0f7a4 28 = .ok (.iadd, 1) := by decide +kernel
theorem dJ6_bitCount_0f7a4_29 : decode cJ6_bitCount_0f7a4 29 = .ok (.ldc_w 267, 3) := by decide +kernel
theorem dJ6_bitCount_0f7a4_32 : decode cJ6_bitCount_0f7a4 32 = .ok (.iand, 1) := by decide +kernel
theorem dJ6_bitCount_0f7a4_33 : decode cJ6_bitCount_0f7a4 33 = .ok (.istore_n 0, 1) := by decide +kernel
theorem dJ6_bitCount_0f7a4_34 : decode cJ6_bitCount_0f7a4 34 = .ok (.iload_n 0, 1) := by decide +kernel
theorem dJ6_bitCount_0f7a4_35 : decode cJ6_bitCount_0f7a4 35 = .ok (.iload_n 0, 1) := by decide +kernel
theorem dJ6_bitCount_0f7a4_36 : decode cJ6_bitCount_0f7a4 36 = .ok (.bipush 8, 2) := by decide +kernel
theorem dJ6_bitCount_0f7a4_38 : decode cJ6_bitCount_0f7a4 38 = .ok (.iushr, 1) := by decide +kernel
theorem dJ6_bitCount_0f7a4_39 : decode cJ6_bitCount_0f7a4 39 = .ok (.iadd, 1) := by decide +kernel
theorem dJ6_bitCount_0f7a4_40 : decode cJ6_bitCount_0f7a4 40 = .ok (.istore_n 0, 1) := by decide +kernel
theorem dJ6_bitCount_0f7a4_41 : decode cJ6_bitCount_0f7a4 41 = .ok (.iload_n 0, 1) := by decide +kernel
theorem dJ6_bitCount_0f7a4_42 : decode cJ6_bitCount_0f7a4 42 = .ok (.iload_n 0, 1) := by decide +kernel
theorem dJ6_bitCount_0f7a4_43 : decode cJ6_bitCount_0f7a4 43 = .ok (.bipush 16, 2) := by decide +kernel
theorem dJ6_bitCount_0f7a4_45 : decode cJ6_bitCount_0f7a4 45 = .ok (.iushr, 1) := by decide +kernel
theorem dJ6_bitCount_0f7a4_46 : decode cJ6_bitCount_0f7a4 46 = .ok (.iadd, 1) := by decide +kernel
theorem dJ6_bitCount_0f7a4_47 : decode cJ6_bitCount_0f7a4 47 = .ok (.istore_n 0, 1) := by decide +kernel
theorem dJ6_bitCount_0f7a4_48 : decode cJ6_bitCount_0f7a4 48 = .ok (.iload_n 0, 1) := by decide +kernel
theorem dJ6_bitCount_0f7a4_49 : decode cJ6_bitCount_0f7a4 49 = .ok (.bipush 63, 2) := by decide +kernel
theorem dJ6_bitCount_0f7a4_51 : decode cJ6_bitCount_0f7a4 51 = .ok (.iand, 1) := by decide +kernel
theorem dJ6_bitCount_0f7a4_52 : decode cJ6_bitCount_0f7a4 52 = .ok (.ireturn, 1) := by decide +kernel
theorem dJ9_max_7cf53_0 : decode cJ9_max_7cf53 0 = .ok (.iload_n 0, 1) := by decide +kernel
theorem dJ9_max_7cf53_1 : decode cJ9_max_7cf53 1 = .ok (.iload_n 1, 1) := by decide +kernel
theorem dJ9_max_7cf53_2 : decode cJ9_max_7cf53 2 = .ok (.if_icmp .lt 7, 3) := by decide +kernel
theorem dJ9_max_7cf53_5 : decode cJ9_max_7cf53 5 = .ok (.iload_n 0, 1) := by decide +kernel
theorem dJ9_max_7cf53_6 : decode cJ9_max_7cf53 6 = .ok (.goto 4, 3) := by decide +kernel
theorem dJ9_max_7cf53_9 : decode cJ9_max_7cf53 9 = .ok (.iload_n 1, 1) := by decide +kernel
theorem dJ9_max_7cf53_10 : decode cJ9_max_7cf53 10 = .ok (.ireturn, 1) := by decide +kernel
theorem dL_addWorld_0 : decode cL_addWorld 0 = .ok (.aload_n 2, 1) := by decide +kernel
theorem dL_addWorld_1 : decode cL_addWorld 1 = .ok (.iconst 0, 1) := by decide +kernel
theorem dL_addWorld_2 : decode cL_addWorld 2 = .ok (.aload_n 0, 1) := by decide +kernel
theorem dL_addWorld_3 : decode cL_addWorld 3 = .ok (.iload_n 1, 1) := by decide +kernel
theorem dL_addWorld_4 : decode cL_addWorld 4 = .ok (.invokevirtual 7, 3) := by decide +kernel
theorem dL_addWorld_7 : decode cL_addWorld 7 = .ok (.i2l, 1) := by decide +kernel
theorem dL_addWorld_8 : decode cL_addWorld 8 = .ok (.lastore, 1) := by decide +kernel
theorem dL_addWorld_9 : decode cL_addWorld 9 = .ok (.goto 9, 3) := by decide +kernel
theorem dL_addWorld_12 : decode cL_addWorld 12 = .ok (.astore_n 3, 1) := by decide +kernel
theorem dL_addWorld_13 : decode cL_addWorld 13 = .ok (.iconst 1, 1) := by decide +kernel
theorem dL_addWorld_14 : decode cL_addWorld 14 = .ok (.ireturn, 1) := by decide +kernel
theorem dL_addWorld_15 : decode cL_addWorld 15 = .ok (.astore_n 3, 1) := by decide +kernel
theorem dL_addWorld_16 : decode cL_addWorld 16 = .ok (.iconst 2, 1) := by decide +kernel
theorem dL_addWorld_17 : decode cL_addWorld 17 = .ok (.ireturn, 1) := by decide +kernel
theorem dL_addWorld_18 : decode cL_addWorld 18 = .ok (.iconst 0, 1) := by decide +kernel
theorem dL_addWorld_19 : decode cL_addWorld 19 = .ok (.ireturn, 1) := by decide +kernel
theorem dL_removeWorld_0 : decode cL_removeWorld 0 = .ok (.aload_n 2, 1) := by decide +kernel
theorem dL_removeWorld_1 : decode cL_removeWorld 1 = .ok (.iconst 0, 1) := by decide +kernel
theorem dL_removeWorld_2 : decode cL_removeWorld 2 = .ok (.aload_n 0, 1) := by decide +kernel
theorem dL_removeWorld_3 : decode cL_removeWorld 3 = .ok (.iload_n 1, 1) := by decide +kernel
theorem dL_removeWorld_4 : decode cL_removeWorld 4 = .ok (.invokevirtual 17, 3) := by decide +kernel
theorem dL_removeWorld_7 : decode cL_removeWorld 7 = .ok (.i2l, 1) := by decide +kernel
theorem dL_removeWorld_8 : decode cL_removeWorld 8 = .ok (.lastore, 1) := by decide +kernel
theorem dL_removeWorld_9 : decode cL_removeWorld 9 = .ok (.goto 6, 3) := by decide +kernel
theorem dL_removeWorld_12 : decode cL_removeWorld 12 = .ok (.astore_n 3, 1) := by decide +kernel
theorem dL_removeWorld_13 : decode cL_removeWorld 13 = .ok (.iconst 1, 1) := by decide +kernel
theorem dL_removeWorld_14 : decode cL_removeWorld 14 = .ok (.ireturn, 1) := by decide +kernel
theorem dL_removeWorld_15 : decode cL_removeWorld 15 = .ok (.iconst 0, 1) := by decide +kernel
theorem dL_removeWorld_16 : decode cL_removeWorld 16 = .ok (.ireturn, 1) := by decide +kernel
theorem dL_step_0 : decode cL_step 0 = .ok (.aload_n 3, 1) := by decide +kernel
theorem dL_step_1 : decode cL_step 1 = .ok (.iconst 0, 1) := by decide +kernel
theorem dL_step_2 : decode cL_step 2 = .ok (.aload_n 0, 1) := by decide +kernel
theorem dL_step_3 : decode cL_step 3 = .ok (.iload_n 1, 1) := by decide +kernel
theorem dL_step_4 : decode cL_step 4 = .ok (.iload_n 2, 1) := by decide +kernel
theorem dL_step_5 : decode cL_step 5 = .ok (.invokevirtual 22, 3) := by decide +kernel
theorem dL_step_8 : decode cL_step 8 = .ok (.i2l, 1) := by decide +kernel
theorem dL_step_9 : decode cL_step 9 = .ok (.lastore, 1) := by decide +kernel
theorem dL_step_10 : decode cL_step 10 = .ok (.goto 7, 3) := by decide +kernel
theorem dL_step_13 : decode cL_step 13 = .ok (.astore 4, 2) := by decide +kernel
theorem dL_step_15 : decode cL_step 15 = .ok (.iconst 1, 1) := by decide +kernel
theorem dL_step_16 : decode cL_step 16 = .ok (.ireturn, 1) := by decide +kernel
theorem dL_step_17 : decode cL_step 17 = .ok (.iconst 0, 1) := by decide +kernel
theorem dL_step_18 : decode cL_step 18 = .ok (.ireturn, 1) := by decide +kernel
theorem dL_flip_0 : decode cL_flip 0 = .ok (.aload_n 3, 1) := by decide +kernel
theorem dL_flip_1 : decode cL_flip 1 = .ok (.iconst 0, 1) := by decide +kernel
theorem dL_flip_2 : decode cL_flip 2 = .ok (.aload_n 0, 1) := by decide +kernel
theorem dL_flip_3 : decode cL_flip 3 = .ok (.iload_n 1, 1) := by decide +kernel
theorem dL_flip_4 : decode cL_flip 4 = .ok (.iload_n 2, 1) := by decide +kernel
theorem dL_flip_5 : decode cL_flip 5 = .ok (.invokevirtual 26, 3) := by decide +kernel
theorem dL_flip_8 : decode cL_flip 8 = .ok (.i2l, 1) := by decide +kernel
theorem dL_flip_9 : decode cL_flip 9 = .ok (.lastore, 1) := by decide +kernel
theorem dL_flip_10 : decode cL_flip 10 = .ok (.goto 11, 3) := by decide +kernel
theorem dL_flip_13 : decode cL_flip 13 = .ok (.astore 4, 2) := by decide +kernel
theorem dL_flip_15 : decode cL_flip 15 = .ok (.iconst 1, 1) := by decide +kernel
theorem dL_flip_16 : decode cL_flip 16 = .ok (.ireturn, 1) := by decide +kernel
theorem dL_flip_17 : decode cL_flip 17 = .ok (.astore 4, 2) := by decide +kernel
theorem dL_flip_19 : decode cL_flip 19 = .ok (.iconst 2, 1) := by decide +kernel
theorem dL_flip_20 : decode cL_flip 20 = .ok (.ireturn, 1) := by decide +kernel
theorem dL_flip_21 : decode cL_flip 21 = .ok (.iconst 0, 1) := by decide +kernel
theorem dL_flip_22 : decode cL_flip 22 = .ok (.ireturn, 1) := by decide +kernel
theorem dL_fair_0 : decode cL_fair 0 = .ok (.aload_n 2, 1) := by decide +kernel
theorem dL_fair_1 : decode cL_fair 1 = .ok (.iconst 0, 1) := by decide +kernel
theorem dL_fair_2 : decode cL_fair 2 = .ok (.aload_n 0, 1) := by decide +kernel
theorem dL_fair_3 : decode cL_fair 3 = .ok (.iload_n 1, 1) := by decide +kernel
theorem dL_fair_4 : decode cL_fair 4 = .ok (.invokevirtual 29, 3) := by decide +kernel
theorem dL_fair_7 : decode cL_fair 7 = .ok (.i2l, 1) := by decide +kernel
theorem dL_fair_8 : decode cL_fair 8 = .ok (.lastore, 1) := by decide +kernel
theorem dL_fair_9 : decode cL_fair 9 = .ok (.goto 6, 3) := by decide +kernel
theorem dL_fair_12 : decode cL_fair 12 = .ok (.astore_n 3, 1) := by decide +kernel
theorem dL_fair_13 : decode cL_fair 13 = .ok (.iconst 1, 1) := by decide +kernel
theorem dL_fair_14 : decode cL_fair 14 = .ok (.ireturn, 1) := by decide +kernel
theorem dL_fair_15 : decode cL_fair 15 = .ok (.iconst 0, 1) := by decide +kernel
theorem dL_fair_16 : decode cL_fair 16 = .ok (.ireturn, 1) := by decide +kernel
theorem dL_append_0 : decode cL_append 0 = .ok (.aload_n 2, 1) := by decide +kernel
theorem dL_append_1 : decode cL_append 1 = .ok (.iconst 0, 1) := by decide +kernel
theorem dL_append_2 : decode cL_append 2 = .ok (.aload_n 0, 1) := by decide +kernel
theorem dL_append_3 : decode cL_append 3 = .ok (.iload_n 1, 1) := by decide +kernel
theorem dL_append_4 : decode cL_append 4 = .ok (.invokevirtual 32, 3) := by decide +kernel
theorem dL_append_7 : decode cL_append 7 = .ok (.i2l, 1) := by decide +kernel
theorem dL_append_8 : decode cL_append 8 = .ok (.lastore, 1) := by decide +kernel
theorem dL_append_9 : decode cL_append 9 = .ok (.goto 9, 3) := by decide +kernel
theorem dL_append_12 : decode cL_append 12 = .ok (.astore_n 3, 1) := by decide +kernel
theorem dL_append_13 : decode cL_append 13 = .ok (.iconst 1, 1) := by decide +kernel
theorem dL_append_14 : decode cL_append 14 = .ok (.ireturn, 1) := by decide +kernel
theorem dL_append_15 : decode cL_append 15 = .ok (.astore_n 3, 1) := by decide +kernel
theorem dL_append_16 : decode cL_append 16 = .ok (.iconst 2, 1) := by decide +kernel
theorem dL_append_17 : decode cL_append 17 = .ok (.ireturn, 1) := by decide +kernel
theorem dL_append_18 : decode cL_append 18 = .ok (.iconst 0, 1) := by decide +kernel
theorem dL_append_19 : decode cL_append 19 = .ok (.ireturn, 1) := by decide +kernel
theorem dL_read_0 : decode cL_read 0 = .ok (.aload_n 2, 1) := by decide +kernel
theorem dL_read_1 : decode cL_read 1 = .ok (.iconst 0, 1) := by decide +kernel
theorem dL_read_2 : decode cL_read 2 = .ok (.aload_n 0, 1) := by decide +kernel
theorem dL_read_3 : decode cL_read 3 = .ok (.iload_n 1, 1) := by decide +kernel
theorem dL_read_4 : decode cL_read 4 = .ok (.invokevirtual 35, 3) := by decide +kernel
theorem dL_read_7 : decode cL_read 7 = .ok (.i2l, 1) := by decide +kernel
theorem dL_read_8 : decode cL_read 8 = .ok (.lastore, 1) := by decide +kernel
theorem dL_read_9 : decode cL_read 9 = .ok (.goto 9, 3) := by decide +kernel
theorem dL_read_12 : decode cL_read 12 = .ok (.astore_n 3, 1) := by decide +kernel
theorem dL_read_13 : decode cL_read 13 = .ok (.iconst 1, 1) := by decide +kernel
theorem dL_read_14 : decode cL_read 14 = .ok (.ireturn, 1) := by decide +kernel
theorem dL_read_15 : decode cL_read 15 = .ok (.astore_n 3, 1) := by decide +kernel
theorem dL_read_16 : decode cL_read 16 = .ok (.iconst 2, 1) := by decide +kernel
theorem dL_read_17 : decode cL_read 17 = .ok (.ireturn, 1) := by decide +kernel
theorem dL_read_18 : decode cL_read 18 = .ok (.iconst 0, 1) := by decide +kernel
theorem dL_read_19 : decode cL_read 19 = .ok (.ireturn, 1) := by decide +kernel
theorem dL_negate_0 : decode cL_negate 0 = .ok (.aload_n 2, 1) := by decide +kernel
theorem dL_negate_1 : decode cL_negate 1 = .ok (.iconst 0, 1) := by decide +kernel
theorem dL_negate_2 : decode cL_negate 2 = .ok (.aload_n 0, 1) := by decide +kernel
theorem dL_negate_3 : decode cL_negate 3 = .ok (.iload_n 1, 1) := by decide +kernel
theorem dL_negate_4 : decode cL_negate 4 = .ok (.invokevirtual 38, 3) := by decide +kernel
theorem dL_negate_7 : decode cL_negate 7 = .ok (.i2l, 1) := by decide +kernel
theorem dL_negate_8 : decode cL_negate 8 = .ok (.lastore, 1) := by decide +kernel
theorem dL_negate_9 : decode cL_negate 9 = .ok (.goto 9, 3) := by decide +kernel
theorem dL_negate_12 : decode cL_negate 12 = .ok (.astore_n 3, 1) := by decide +kernel
theorem dL_negate_13 : decode cL_negate 13 = .ok (.iconst 1, 1) := by decide +kernel
theorem dL_negate_14 : decode cL_negate 14 = .ok (.ireturn, 1) := by decide +kernel
theorem dL_negate_15 : decode cL_negate 15 = .ok (.astore_n 3, 1) := by decide +kernel
theorem dL_negate_16 : decode cL_negate 16 = .ok (.iconst 2, 1) := by decide +kernel
theorem dL_negate_17 : decode cL_negate 17 = .ok (.ireturn, 1) := by decide +kernel
theorem dL_negate_18 : decode cL_negate 18 = .ok (.iconst 0, 1) := by decide +kernel
theorem dL_negate_19 : decode cL_negate 19 = .ok (.ireturn, 1) := by decide +kernel
theorem dL_giveUp_0 : decode cL_giveUp 0 = .ok (.aload_n 2, 1) := by decide +kernel
theorem dL_giveUp_1 : decode cL_giveUp 1 = .ok (.iconst 0, 1) := by decide +kernel
theorem dL_giveUp_2 : decode cL_giveUp 2 = .ok (.aload_n 0, 1) := by decide +kernel
theorem dL_giveUp_3 : decode cL_giveUp 3 = .ok (.iload_n 1, 1) := by decide +kernel
theorem dL_giveUp_4 : decode cL_giveUp 4 = .ok (.invokevirtual 41, 3) := by decide +kernel
theorem dL_giveUp_7 : decode cL_giveUp 7 = .ok (.i2l, 1) := by decide +kernel
theorem dL_giveUp_8 : decode cL_giveUp 8 = .ok (.lastore, 1) := by decide +kernel
theorem dL_giveUp_9 : decode cL_giveUp 9 = .ok (.goto 6, 3) := by decide +kernel
theorem dL_giveUp_12 : decode cL_giveUp 12 = .ok (.astore_n 3, 1) := by decide +kernel
theorem dL_giveUp_13 : decode cL_giveUp 13 = .ok (.iconst 1, 1) := by decide +kernel
theorem dL_giveUp_14 : decode cL_giveUp 14 = .ok (.ireturn, 1) := by decide +kernel
theorem dL_giveUp_15 : decode cL_giveUp 15 = .ok (.iconst 0, 1) := by decide +kernel
theorem dL_giveUp_16 : decode cL_giveUp 16 = .ok (.ireturn, 1) := by decide +kernel
theorem dL_undo_0 : decode cL_undo 0 = .ok (.aload_n 1, 1) := by decide +kernel
theorem dL_undo_1 : decode cL_undo 1 = .ok (.iconst 0, 1) := by decide +kernel
theorem dL_undo_2 : decode cL_undo 2 = .ok (.aload_n 0, 1) := by decide +kernel
theorem dL_undo_3 : decode cL_undo 3 = .ok (.invokevirtual 44, 3) := by decide +kernel
theorem dL_undo_6 : decode cL_undo 6 = .ok (.i2l, 1) := by decide +kernel
theorem dL_undo_7 : decode cL_undo 7 = .ok (.lastore, 1) := by decide +kernel
theorem dL_undo_8 : decode cL_undo 8 = .ok (.goto 6, 3) := by decide +kernel
theorem dL_undo_11 : decode cL_undo 11 = .ok (.astore_n 2, 1) := by decide +kernel
theorem dL_undo_12 : decode cL_undo 12 = .ok (.iconst 1, 1) := by decide +kernel
theorem dL_undo_13 : decode cL_undo 13 = .ok (.ireturn, 1) := by decide +kernel
theorem dL_undo_14 : decode cL_undo 14 = .ok (.iconst 0, 1) := by decide +kernel
theorem dL_undo_15 : decode cL_undo 15 = .ok (.ireturn, 1) := by decide +kernel
theorem dL_world_0 : decode cL_world 0 = .ok (.aload_n 3, 1) := by decide +kernel
theorem dL_world_1 : decode cL_world 1 = .ok (.iconst 0, 1) := by decide +kernel
theorem dL_world_2 : decode cL_world 2 = .ok (.aload_n 0, 1) := by decide +kernel
theorem dL_world_3 : decode cL_world 3 = .ok (.iload_n 1, 1) := by decide +kernel
theorem dL_world_4 : decode cL_world 4 = .ok (.iload_n 2, 1) := by decide +kernel
theorem dL_world_5 : decode cL_world 5 = .ok (.invokevirtual 48, 3) := by decide +kernel
theorem dL_world_8 : decode cL_world 8 = .ok (.i2l, 1) := by decide +kernel
theorem dL_world_9 : decode cL_world 9 = .ok (.lastore, 1) := by decide +kernel
theorem dL_world_10 : decode cL_world 10 = .ok (.goto 11, 3) := by decide +kernel
theorem dL_world_13 : decode cL_world 13 = .ok (.astore 4, 2) := by decide +kernel
theorem dL_world_15 : decode cL_world 15 = .ok (.iconst 1, 1) := by decide +kernel
theorem dL_world_16 : decode cL_world 16 = .ok (.ireturn, 1) := by decide +kernel
theorem dL_world_17 : decode cL_world 17 = .ok (.astore 4, 2) := by decide +kernel
theorem dL_world_19 : decode cL_world 19 = .ok (.iconst 2, 1) := by decide +kernel
theorem dL_world_20 : decode cL_world 20 = .ok (.ireturn, 1) := by decide +kernel
theorem dL_world_21 : decode cL_world 21 = .ok (.iconst 0, 1) := by decide +kernel
theorem dL_world_22 : decode cL_world 22 = .ok (.ireturn, 1) := by decide +kernel
theorem dL_wish_0 : decode cL_wish 0 = .ok (.aload_n 3, 1) := by decide +kernel
theorem dL_wish_1 : decode cL_wish 1 = .ok (.iconst 0, 1) := by decide +kernel
theorem dL_wish_2 : decode cL_wish 2 = .ok (.aload_n 0, 1) := by decide +kernel
theorem dL_wish_3 : decode cL_wish 3 = .ok (.iload_n 1, 1) := by decide +kernel
theorem dL_wish_4 : decode cL_wish 4 = .ok (.iload_n 2, 1) := by decide +kernel
theorem dL_wish_5 : decode cL_wish 5 = .ok (.invokevirtual 51, 3) := by decide +kernel
theorem dL_wish_8 : decode cL_wish 8 = .ok (.i2l, 1) := by decide +kernel
theorem dL_wish_9 : decode cL_wish 9 = .ok (.lastore, 1) := by decide +kernel
theorem dL_wish_10 : decode cL_wish 10 = .ok (.goto 11, 3) := by decide +kernel
theorem dL_wish_13 : decode cL_wish 13 = .ok (.astore 4, 2) := by decide +kernel
theorem dL_wish_15 : decode cL_wish 15 = .ok (.iconst 1, 1) := by decide +kernel
theorem dL_wish_16 : decode cL_wish 16 = .ok (.ireturn, 1) := by decide +kernel
theorem dL_wish_17 : decode cL_wish 17 = .ok (.astore 4, 2) := by decide +kernel
theorem dL_wish_19 : decode cL_wish 19 = .ok (.iconst 2, 1) := by decide +kernel
theorem dL_wish_20 : decode cL_wish 20 = .ok (.ireturn, 1) := by decide +kernel
theorem dL_wish_21 : decode cL_wish 21 = .ok (.iconst 0, 1) := by decide +kernel
theorem dL_wish_22 : decode cL_wish 22 = .ok (.ireturn, 1) := by decide +kernel
theorem dL_sign_0 : decode cL_sign 0 = .ok (.aload 4, 2) := by decide +kernel
theorem dL_sign_2 : decode cL_sign 2 = .ok (.iconst 0, 1) := by decide +kernel
theorem dL_sign_3 : decode cL_sign 3 = .ok (.aload_n 0, 1) := by decide +kernel
theorem dL_sign_4 : decode cL_sign 4 = .ok (.iload_n 1, 1) := by decide +kernel
theorem dL_sign_5 : decode cL_sign 5 = .ok (.iload_n 2, 1) := by decide +kernel
theorem dL_sign_6 : decode cL_sign 6 = .ok (.iload_n 3, 1) := by decide +kernel
theorem dL_sign_7 : decode cL_sign 7 = .ok (.invokevirtual 54, 3) := by decide +kernel
theorem dL_sign_10 : decode cL_sign 10 = .ok (.i2l, 1) := by decide +kernel
theorem dL_sign_11 : decode cL_sign 11 = .ok (.lastore, 1) := by decide +kernel
theorem dL_sign_12 : decode cL_sign 12 = .ok (.goto 11, 3) := by decide +kernel
theorem dL_sign_15 : decode cL_sign 15 = .ok (.astore 5, 2) := by decide +kernel
theorem dL_sign_17 : decode cL_sign 17 = .ok (.iconst 1, 1) := by decide +kernel
theorem dL_sign_18 : decode cL_sign 18 = .ok (.ireturn, 1) := by decide +kernel
theorem dL_sign_19 : decode cL_sign 19 = .ok (.astore 5, 2) := by decide +kernel
theorem dL_sign_21 : decode cL_sign 21 = .ok (.iconst 2, 1) := by decide +kernel
theorem dL_sign_22 : decode cL_sign 22 = .ok (.ireturn, 1) := by decide +kernel
theorem dL_sign_23 : decode cL_sign 23 = .ok (.iconst 0, 1) := by decide +kernel
theorem dL_sign_24 : decode cL_sign 24 = .ok (.ireturn, 1) := by decide +kernel
theorem dL_witness_0 : decode cL_witness 0 = .ok (.aload 4, 2) := by decide +kernel
theorem dL_witness_2 : decode cL_witness 2 = .ok (.iconst 0, 1) := by decide +kernel
theorem dL_witness_3 : decode cL_witness 3 = .ok (.aload_n 0, 1) := by decide +kernel
theorem dL_witness_4 : decode cL_witness 4 = .ok (.iload_n 1, 1) := by decide +kernel
theorem dL_witness_5 : decode cL_witness 5 = .ok (.iload_n 2, 1) := by decide +kernel
theorem dL_witness_6 : decode cL_witness 6 = .ok (.iload_n 3, 1) := by decide +kernel
theorem dL_witness_7 : decode cL_witness 7 = .ok (.invokevirtual 58, 3) := by decide +kernel
theorem dL_witness_10 : decode cL_witness 10 = .ok (.i2l, 1) := by decide +kernel
theorem dL_witness_11 : decode cL_witness 11 = .ok (.lastore, 1) := by decide +kernel
theorem dL_witness_12 : decode cL_witness 12 = .ok (.goto 11, 3) := by decide +kernel
theorem dL_witness_15 : decode cL_witness 15 = .ok (.astore 5, 2) := by decide +kernel
theorem dL_witness_17 : decode cL_witness 17 = .ok (.iconst 1, 1) := by decide +kernel
theorem dL_witness_18 : decode cL_witness 18 = .ok (.ireturn, 1) := by decide +kernel
theorem dL_witness_19 : decode cL_witness 19 = .ok (.astore 5, 2) := by decide +kernel
theorem dL_witness_21 : decode cL_witness 21 = .ok (.iconst 2, 1) := by decide +kernel
theorem dL_witness_22 : decode cL_witness 22 = .ok (.ireturn, 1) := by decide +kernel
theorem dL_witness_23 : decode cL_witness 23 = .ok (.iconst 0, 1) := by decide +kernel
theorem dL_witness_24 : decode cL_witness 24 = .ok (.ireturn, 1) := by decide +kernel
theorem dL_compare_0 : decode cL_compare 0 = .ok (.aload_n 3, 1) := by decide +kernel
theorem dL_compare_1 : decode cL_compare 1 = .ok (.iconst 0, 1) := by decide +kernel
theorem dL_compare_2 : decode cL_compare 2 = .ok (.aload_n 0, 1) := by decide +kernel
theorem dL_compare_3 : decode cL_compare 3 = .ok (.iload_n 1, 1) := by decide +kernel
theorem dL_compare_4 : decode cL_compare 4 = .ok (.iload_n 2, 1) := by decide +kernel
theorem dL_compare_5 : decode cL_compare 5 = .ok (.invokevirtual 61, 3) := by decide +kernel
theorem dL_compare_8 : decode cL_compare 8 = .ok (.i2l, 1) := by decide +kernel
theorem dL_compare_9 : decode cL_compare 9 = .ok (.lastore, 1) := by decide +kernel
theorem dL_compare_10 : decode cL_compare 10 = .ok (.goto 7, 3) := by decide +kernel
theorem dL_compare_13 : decode cL_compare 13 = .ok (.astore 4, 2) := by decide +kernel
theorem dL_compare_15 : decode cL_compare 15 = .ok (.iconst 1, 1) := by decide +kernel
theorem dL_compare_16 : decode cL_compare 16 = .ok (.ireturn, 1) := by decide +kernel
theorem dL_compare_17 : decode cL_compare 17 = .ok (.iconst 0, 1) := by decide +kernel
theorem dL_compare_18 : decode cL_compare 18 = .ok (.ireturn, 1) := by decide +kernel
theorem dL_count_0 : decode cL_count 0 = .ok (.aload_n 2, 1) := by decide +kernel
theorem dL_count_1 : decode cL_count 1 = .ok (.iconst 0, 1) := by decide +kernel
theorem dL_count_2 : decode cL_count 2 = .ok (.aload_n 0, 1) := by decide +kernel
theorem dL_count_3 : decode cL_count 3 = .ok (.iload_n 1, 1) := by decide +kernel
theorem dL_count_4 : decode cL_count 4 = .ok (.invokevirtual 64, 3) := by decide +kernel
theorem dL_count_7 : decode cL_count 7 = .ok (.i2l, 1) := by decide +kernel
theorem dL_count_8 : decode cL_count 8 = .ok (.lastore, 1) := by decide +kernel
theorem dL_count_9 : decode cL_count 9 = .ok (.goto 6, 3) := by decide +kernel
theorem dL_count_12 : decode cL_count 12 = .ok (.astore_n 3, 1) := by decide +kernel
theorem dL_count_13 : decode cL_count 13 = .ok (.iconst 1, 1) := by decide +kernel
theorem dL_count_14 : decode cL_count 14 = .ok (.ireturn, 1) := by decide +kernel
theorem dL_count_15 : decode cL_count 15 = .ok (.iconst 0, 1) := by decide +kernel
theorem dL_count_16 : decode cL_count 16 = .ok (.ireturn, 1) := by decide +kernel
theorem dL_fixes_0 : decode cL_fixes 0 = .ok (.aload 4, 2) := by decide +kernel
theorem dL_fixes_2 : decode cL_fixes 2 = .ok (.iconst 0, 1) := by decide +kernel
theorem dL_fixes_3 : decode cL_fixes 3 = .ok (.aload_n 0, 1) := by decide +kernel
theorem dL_fixes_4 : decode cL_fixes 4 = .ok (.iload_n 1, 1) := by decide +kernel
theorem dL_fixes_5 : decode cL_fixes 5 = .ok (.iload_n 2, 1) := by decide +kernel
theorem dL_fixes_6 : decode cL_fixes 6 = .ok (.iload_n 3, 1) := by decide +kernel
theorem dL_fixes_7 : decode cL_fixes 7 = .ok (.invokevirtual 67, 3) := by decide +kernel
theorem dL_fixes_10 : decode cL_fixes 10 = .ok (.i2l, 1) := by decide +kernel
theorem dL_fixes_11 : decode cL_fixes 11 = .ok (.lastore, 1) := by decide +kernel
theorem dL_fixes_12 : decode cL_fixes 12 = .ok (.goto 11, 3) := by decide +kernel
theorem dL_fixes_15 : decode cL_fixes 15 = .ok (.astore 5, 2) := by decide +kernel
theorem dL_fixes_17 : decode cL_fixes 17 = .ok (.iconst 1, 1) := by decide +kernel
theorem dL_fixes_18 : decode cL_fixes 18 = .ok (.ireturn, 1) := by decide +kernel
theorem dL_fixes_19 : decode cL_fixes 19 = .ok (.astore 5, 2) := by decide +kernel
theorem dL_fixes_21 : decode cL_fixes 21 = .ok (.iconst 2, 1) := by decide +kernel
theorem dL_fixes_22 : decode cL_fixes 22 = .ok (.ireturn, 1) := by decide +kernel
theorem dL_fixes_23 : decode cL_fixes 23 = .ok (.iconst 0, 1) := by decide +kernel
theorem dL_fixes_24 : decode cL_fixes 24 = .ok (.ireturn, 1) := by decide +kernel
theorem dL_ifFair_0 : decode cL_ifFair 0 = .ok (.aload_n 3, 1) := by decide +kernel
theorem dL_ifFair_1 : decode cL_ifFair 1 = .ok (.iconst 0, 1) := by decide +kernel
theorem dL_ifFair_2 : decode cL_ifFair 2 = .ok (.aload_n 0, 1) := by decide +kernel
theorem dL_ifFair_3 : decode cL_ifFair 3 = .ok (.iload_n 1, 1) := by decide +kernel
theorem dL_ifFair_4 : decode cL_ifFair 4 = .ok (.iload_n 2, 1) := by decide +kernel
theorem dL_ifFair_5 : decode cL_ifFair 5 = .ok (.invokevirtual 70, 3) := by decide +kernel
theorem dL_ifFair_8 : decode cL_ifFair 8 = .ok (.i2l, 1) := by decide +kernel
theorem dL_ifFair_9 : decode cL_ifFair 9 = .ok (.lastore, 1) := by decide +kernel
theorem dL_ifFair_10 : decode cL_ifFair 10 = .ok (.goto 11, 3) := by decide +kernel
theorem dL_ifFair_13 : decode cL_ifFair 13 = .ok (.astore 4, 2) := by decide +kernel
theorem dL_ifFair_15 : decode cL_ifFair 15 = .ok (.iconst 1, 1) := by decide +kernel
theorem dL_ifFair_16 : decode cL_ifFair 16 = .ok (.ireturn, 1) := by decide +kernel
theorem dL_ifFair_17 : decode cL_ifFair 17 = .ok (.astore 4, 2) := by decide +kernel
theorem dL_ifFair_19 : decode cL_ifFair 19 = .ok (.iconst 2, 1) := by decide +kernel
theorem dL_ifFair_20 : decode cL_ifFair 20 = .ok (.ireturn, 1) := by decide +kernel
theorem dL_ifFair_21 : decode cL_ifFair 21 = .ok (.iconst 0, 1) := by decide +kernel
theorem dL_ifFair_22 : decode cL_ifFair 22 = .ok (.ireturn, 1) := by decide +kernel
theorem dL_law_0 : decode cL_law 0 = .ok (.new 8, 3) := by decide +kernel
theorem dL_law_3 : decode cL_law 3 = .ok (.dup, 1) := by decide +kernel
theorem dL_law_4 : decode cL_law 4 = .ok (.invokespecial 73, 3) := by decide +kernel
theorem dL_law_7 : decode cL_law 7 = .ok (.astore_n 1, 1) := by decide +kernel
theorem dL_law_8 : decode cL_law 8 = .ok (.new 74, 3) := by decide +kernel
theorem dL_law_11 : decode cL_law 11 = .ok (.dup, 1) := by decide +kernel
theorem dL_law_12 : decode cL_law 12 = .ok (.invokespecial 76, 3) := by decide +kernel
theorem dL_law_15 : decode cL_law 15 = .ok (.astore_n 2, 1) := by decide +kernel
theorem dL_law_16 : decode cL_law 16 = .ok (.iconst 1, 1) := by decide +kernel
theorem dL_law_17 : decode cL_law 17 = .ok (.newarray .long, 2) := by decide +kernel
theorem dL_law_19 : decode cL_law 19 = .ok (.astore_n 3, 1) := by decide +kernel
theorem dL_law_20 : decode cL_law 20 = .ok (.iconst 0, 1) := by decide +kernel
theorem dL_law_21 : decode cL_law 21 = .ok (.istore 4, 2) := by decide +kernel
theorem dL_law_23 : decode cL_law 23 = .ok (.iload 4, 2) := by decide +kernel
theorem dL_law_25 : decode cL_law 25 = .ok (.aload_n 0, 1) := by decide +kernel
theorem dL_law_26 : decode cL_law 26 = .ok (.arraylength, 1) := by decide +kernel
theorem dL_law_27 : decode cL_law 27 = .ok (.iconst 4, 1) := by decide +kernel
theorem dL_law_28 : decode cL_law 28 = .ok (.isub, 1) := by decide +kernel
theorem dL_law_29 : decode cL_law 29 = .ok (.if_icmp .gt 1355, 3) := by decide +kernel
theorem dL_law_32 : decode cL_law 32 = .ok (.aload_n 0, 1) := by decide +kernel
theorem dL_law_33 : decode cL_law 33 = .ok (.iload 4, 2) := by decide +kernel
theorem dL_law_35 : decode cL_law 35 = .ok (.iaload, 1) := by decide +kernel
theorem dL_law_36 : decode cL_law 36 = .ok (.bipush 31, 2) := by decide +kernel
theorem dL_law_38 : decode cL_law 38 = .ok (.iand, 1) := by decide +kernel
theorem dL_law_39 : decode cL_law 39 = .ok (.tableswitch 1339 0 22 #[105, 161, 217, 285, 353, 409, 422, 478, 491, 504, 560, 616, 672, 716, 784, 852, 932, 1012, 1080, 1136, 1216, 1284, 1325], 105) := by decide +kernel
theorem dL_law_144 : decode cL_law 144 = .ok (.aload_n 1, 1) := by decide +kernel
theorem dL_law_145 : decode cL_law 145 = .ok (.aload_n 0, 1) := by decide +kernel
theorem dL_law_146 : decode cL_law 146 = .ok (.iload 4, 2) := by decide +kernel
theorem dL_law_148 : decode cL_law 148 = .ok (.iconst 1, 1) := by decide +kernel
theorem dL_law_149 : decode cL_law 149 = .ok (.iadd, 1) := by decide +kernel
theorem dL_law_150 : decode cL_law 150 = .ok (.iaload, 1) := by decide +kernel
theorem dL_law_151 : decode cL_law 151 = .ok (.aload_n 3, 1) := by decide +kernel
theorem dL_law_152 : decode cL_law 152 = .ok (.invokestatic 77, 3) := by decide +kernel
theorem dL_law_155 : decode cL_law 155 = .ok (.istore 5, 2) := by decide +kernel
theorem dL_law_157 : decode cL_law 157 = .ok (.aload_n 2, 1) := by decide +kernel
theorem dL_law_158 : decode cL_law 158 = .ok (.aload_n 0, 1) := by decide +kernel
theorem dL_law_159 : decode cL_law 159 = .ok (.iload 4, 2) := by decide +kernel
theorem dL_law_161 : decode cL_law 161 = .ok (.iconst 1, 1) := by decide +kernel
theorem dL_law_162 : decode cL_law 162 = .ok (.iadd, 1) := by decide +kernel
theorem dL_law_163 : decode cL_law 163 = .ok (.iaload, 1) := by decide +kernel
theorem dL_law_164 : decode cL_law 164 = .ok (.invokevirtual 82, 3) := by decide +kernel
theorem dL_law_167 : decode cL_law 167 = .ok (.istore 6, 2) := by decide +kernel
theorem dL_law_169 : decode cL_law 169 = .ok (.aload_n 2, 1) := by decide +kernel
theorem dL_law_170 : decode cL_law 170 = .ok (.invokevirtual 83, 3) := by decide +kernel
theorem dL_law_173 : decode cL_law 173 = .ok (.iload 5, 2) := by decide +kernel
theorem dL_law_175 : decode cL_law 175 = .ok (.if_icmp .eq 5, 3) := by decide +kernel
theorem dL_law_178 : decode cL_law 178 = .ok (.iconst 0, 1) := by decide +kernel
theorem dL_law_179 : decode cL_law 179 = .ok (.ireturn, 1) := by decide +kernel
theorem dL_law_180 : decode cL_law 180 = .ok (.iload 5, 2) := by decide +kernel
theorem dL_law_182 : decode cL_law 182 = .ok (.ifCond .ne 15, 3) := by decide +kernel
theorem dL_law_185 : decode cL_law 185 = .ok (.aload_n 3, 1) := by decide +kernel
theorem dL_law_186 : decode cL_law 186 = .ok (.iconst 0, 1) := by decide +kernel
theorem dL_law_187 : decode cL_law 187 = .ok (.laload, 1) := by decide +kernel
theorem dL_law_188 : decode cL_law 188 = .ok (.iload 6, 2) := by decide +kernel
theorem dL_law_190 : decode cL_law 190 = .ok (.i2l, 1) := by decide +kernel
theorem dL_law_191 : decode cL_law 191 = .ok (.lcmp, 1) := by decide +kernel
theorem dL_law_192 : decode cL_law 192 = .ok (.ifCond .eq 5, 3) := by decide +kernel
theorem dL_law_195 : decode cL_law 195 = .ok (.iconst 0, 1) := by decide +kernel
theorem dL_law_196 : decode cL_law 196 = .ok (.ireturn, 1) := by decide +kernel
theorem dL_law_197 : decode cL_law 197 = .ok (.goto 1181, 3) := by decide +kernel
theorem dL_law_200 : decode cL_law 200 = .ok (.aload_n 1, 1) := by decide +kernel
theorem dL_law_201 : decode cL_law 201 = .ok (.aload_n 0, 1) := by decide +kernel
theorem dL_law_202 : decode cL_law 202 = .ok (.iload 4, 2) := by decide +kernel
theorem dL_law_204 : decode cL_law 204 = .ok (.iconst 1, 1) := by decide +kernel
theorem dL_law_205 : decode cL_law 205 = .ok (.iadd, 1) := by decide +kernel
theorem dL_law_206 : decode cL_law 206 = .ok (.iaload, 1) := by decide +kernel
theorem dL_law_207 : decode cL_law 207 = .ok (.aload_n 3, 1) := by decide +kernel
theorem dL_law_208 : decode cL_law 208 = .ok (.invokestatic 86, 3) := by decide +kernel
theorem dL_law_211 : decode cL_law 211 = .ok (.istore 5, 2) := by decide +kernel
theorem dL_law_213 : decode cL_law 213 = .ok (.aload_n 2, 1) := by decide +kernel
theorem dL_law_214 : decode cL_law 214 = .ok (.aload_n 0, 1) := by decide +kernel
theorem dL_law_215 : decode cL_law 215 = .ok (.iload 4, 2) := by decide +kernel
theorem dL_law_217 : decode cL_law 217 = .ok (.iconst 1, 1) := by decide +kernel
theorem dL_law_218 : decode cL_law 218 = .ok (.iadd, 1) := by decide +kernel
theorem dL_law_219 : decode cL_law 219 = .ok (.iaload, 1) := by decide +kernel
theorem dL_law_220 : decode cL_law 220 = .ok (.invokevirtual 88, 3) := by decide +kernel
theorem dL_law_223 : decode cL_law 223 = .ok (.istore 6, 2) := by decide +kernel
theorem dL_law_225 : decode cL_law 225 = .ok (.aload_n 2, 1) := by decide +kernel
theorem dL_law_226 : decode cL_law 226 = .ok (.invokevirtual 83, 3) := by decide +kernel
theorem dL_law_229 : decode cL_law 229 = .ok (.iload 5, 2) := by decide +kernel
theorem dL_law_231 : decode cL_law 231 = .ok (.if_icmp .eq 5, 3) := by decide +kernel
theorem dL_law_234 : decode cL_law 234 = .ok (.iconst 0, 1) := by decide +kernel
theorem dL_law_235 : decode cL_law 235 = .ok (.ireturn, 1) := by decide +kernel
theorem dL_law_236 : decode cL_law 236 = .ok (.iload 5, 2) := by decide +kernel
theorem dL_law_238 : decode cL_law 238 = .ok (.ifCond .ne 15, 3) := by decide +kernel
theorem dL_law_241 : decode cL_law 241 = .ok (.aload_n 3, 1) := by decide +kernel
theorem dL_law_242 : decode cL_law 242 = .ok (.iconst 0, 1) := by decide +kernel
theorem dL_law_243 : decode cL_law 243 = .ok (.laload, 1) := by decide +kernel
theorem dL_law_244 : decode cL_law 244 = .ok (.iload 6, 2) := by decide +kernel
theorem dL_law_246 : decode cL_law 246 = .ok (.i2l, 1) := by decide +kernel
theorem dL_law_247 : decode cL_law 247 = .ok (.lcmp, 1) := by decide +kernel
theorem dL_law_248 : decode cL_law 248 = .ok (.ifCond .eq 5, 3) := by decide +kernel
theorem dL_law_251 : decode cL_law 251 = .ok (.iconst 0, 1) := by decide +kernel
theorem dL_law_252 : decode cL_law 252 = .ok (.ireturn, 1) := by decide +kernel
theorem dL_law_253 : decode cL_law 253 = .ok (.goto 1125, 3) := by decide +kernel
theorem dL_law_256 : decode cL_law 256 = .ok (.aload_n 1, 1) := by decide +kernel
theorem dL_law_257 : decode cL_law 257 = .ok (.aload_n 0, 1) := by decide +kernel
theorem dL_law_258 : decode cL_law 258 = .ok (.iload 4, 2) := by decide +kernel
theorem dL_law_260 : decode cL_law 260 = .ok (.iconst 1, 1) := by decide +kernel
theorem dL_law_261 : decode cL_law 261 = .ok (.iadd, 1) := by decide +kernel
theorem dL_law_262 : decode cL_law 262 = .ok (.iaload, 1) := by decide +kernel
theorem dL_law_263 : decode cL_law 263 = .ok (.aload_n 0, 1) := by decide +kernel
theorem dL_law_264 : decode cL_law 264 = .ok (.iload 4, 2) := by decide +kernel
theorem dL_law_266 : decode cL_law 266 = .ok (.iconst 2, 1) := by decide +kernel
theorem dL_law_267 : decode cL_law 267 = .ok (.iadd, 1) := by decide +kernel
theorem dL_law_268 : decode cL_law 268 = .ok (.iaload, 1) := by decide +kernel
theorem dL_law_269 : decode cL_law 269 = .ok (.aload_n 3, 1) := by decide +kernel
theorem dL_law_270 : decode cL_law 270 = .ok (.invokestatic 89, 3) := by decide +kernel
theorem dL_law_273 : decode cL_law 273 = .ok (.istore 5, 2) := by decide +kernel
theorem dL_law_275 : decode cL_law 275 = .ok (.aload_n 2, 1) := by decide +kernel
theorem dL_law_276 : decode cL_law 276 = .ok (.aload_n 0, 1) := by decide +kernel
theorem dL_law_277 : decode cL_law 277 = .ok (.iload 4, 2) := by decide +kernel
theorem dL_law_279 : decode cL_law 279 = .ok (.iconst 1, 1) := by decide +kernel
theorem dL_law_280 : decode cL_law 280 = .ok (.iadd, 1) := by decide +kernel
theorem dL_law_281 : decode cL_law 281 = .ok (.iaload, 1) := by decide +kernel
theorem dL_law_282 : decode cL_law 282 = .ok (.aload_n 0, 1) := by decide +kernel
theorem dL_law_283 : decode cL_law 283 = .ok (.iload 4, 2) := by decide +kernel
theorem dL_law_285 : decode cL_law 285 = .ok (.iconst 2, 1) := by decide +kernel
theorem dL_law_286 : decode cL_law 286 = .ok (.iadd, 1) := by decide +kernel
theorem dL_law_287 : decode cL_law 287 = .ok (.iaload, 1) := by decide +kernel
theorem dL_law_288 : decode cL_law 288 = .ok (.invokevirtual 92, 3) := by decide +kernel
theorem dL_law_291 : decode cL_law 291 = .ok (.istore 6, 2) := by decide +kernel
theorem dL_law_293 : decode cL_law 293 = .ok (.aload_n 2, 1) := by decide +kernel
theorem dL_law_294 : decode cL_law 294 = .ok (.invokevirtual 83, 3) := by decide +kernel
theorem dL_law_297 : decode cL_law 297 = .ok (.iload 5, 2) := by decide +kernel
theorem dL_law_299 : decode cL_law 299 = .ok (.if_icmp .eq 5, 3) := by decide +kernel
theorem dL_law_302 : decode cL_law 302 = .ok (.iconst 0, 1) := by decide +kernel
theorem dL_law_303 : decode cL_law 303 = .ok (.ireturn, 1) := by decide +kernel
theorem dL_law_304 : decode cL_law 304 = .ok (.iload 5, 2) := by decide +kernel
theorem dL_law_306 : decode cL_law 306 = .ok (.ifCond .ne 15, 3) := by decide +kernel
theorem dL_law_309 : decode cL_law 309 = .ok (.aload_n 3, 1) := by decide +kernel
theorem dL_law_310 : decode cL_law 310 = .ok (.iconst 0, 1) := by decide +kernel
theorem dL_law_311 : decode cL_law 311 = .ok (.laload, 1) := by decide +kernel
theorem dL_law_312 : decode cL_law 312 = .ok (.iload 6, 2) := by decide +kernel
theorem dL_law_314 : decode cL_law 314 = .ok (.i2l, 1) := by decide +kernel
theorem dL_law_315 : decode cL_law 315 = .ok (.lcmp, 1) := by decide +kernel
theorem dL_law_316 : decode cL_law 316 = .ok (.ifCond .eq 5, 3) := by decide +kernel
theorem dL_law_319 : decode cL_law 319 = .ok (.iconst 0, 1) := by decide +kernel
theorem dL_law_320 : decode cL_law 320 = .ok (.ireturn, 1) := by decide +kernel
theorem dL_law_321 : decode cL_law 321 = .ok (.goto 1057, 3) := by decide +kernel
theorem dL_law_324 : decode cL_law 324 = .ok (.aload_n 1, 1) := by decide +kernel
theorem dL_law_325 : decode cL_law 325 = .ok (.aload_n 0, 1) := by decide +kernel
theorem dL_law_326 : decode cL_law 326 = .ok (.iload 4, 2) := by decide +kernel
theorem dL_law_328 : decode cL_law 328 = .ok (.iconst 1, 1) := by decide +kernel
theorem dL_law_329 : decode cL_law 329 = .ok (.iadd, 1) := by decide +kernel
theorem dL_law_330 : decode cL_law 330 = .ok (.iaload, 1) := by decide +kernel
theorem dL_law_331 : decode cL_law 331 = .ok (.aload_n 0, 1) := by decide +kernel
theorem dL_law_332 : decode cL_law 332 = .ok (.iload 4, 2) := by decide +kernel
theorem dL_law_334 : decode cL_law 334 = .ok (.iconst 2, 1) := by decide +kernel
theorem dL_law_335 : decode cL_law 335 = .ok (.iadd, 1) := by decide +kernel
theorem dL_law_336 : decode cL_law 336 = .ok (.iaload, 1) := by decide +kernel
theorem dL_law_337 : decode cL_law 337 = .ok (.aload_n 3, 1) := by decide +kernel
theorem dL_law_338 : decode cL_law 338 = .ok (.invokestatic 93, 3) := by decide +kernel
theorem dL_law_341 : decode cL_law 341 = .ok (.istore 5, 2) := by decide +kernel
theorem dL_law_343 : decode cL_law 343 = .ok (.aload_n 2, 1) := by decide +kernel
theorem dL_law_344 : decode cL_law 344 = .ok (.aload_n 0, 1) := by decide +kernel
theorem dL_law_345 : decode cL_law 345 = .ok (.iload 4, 2) := by decide +kernel
theorem dL_law_347 : decode cL_law 347 = .ok (.iconst 1, 1) := by decide +kernel
theorem dL_law_348 : decode cL_law 348 = .ok (.iadd, 1) := by decide +kernel
theorem dL_law_349 : decode cL_law 349 = .ok (.iaload, 1) := by decide +kernel
theorem dL_law_350 : decode cL_law 350 = .ok (.aload_n 0, 1) := by decide +kernel
theorem dL_law_351 : decode cL_law 351 = .ok (.iload 4, 2) := by decide +kernel
theorem dL_law_353 : decode cL_law 353 = .ok (.iconst 2, 1) := by decide +kernel
theorem dL_law_354 : decode cL_law 354 = .ok (.iadd, 1) := by decide +kernel
theorem dL_law_355 : decode cL_law 355 = .ok (.iaload, 1) := by decide +kernel
theorem dL_law_356 : decode cL_law 356 = .ok (.invokevirtual 95, 3) := by decide +kernel
theorem dL_law_359 : decode cL_law 359 = .ok (.istore 6, 2) := by decide +kernel
theorem dL_law_361 : decode cL_law 361 = .ok (.aload_n 2, 1) := by decide +kernel
theorem dL_law_362 : decode cL_law 362 = .ok (.invokevirtual 83, 3) := by decide +kernel
theorem dL_law_365 : decode cL_law 365 = .ok (.iload 5, 2) := by decide +kernel
theorem dL_law_367 : decode cL_law 367 = .ok (.if_icmp .eq 5, 3) := by decide +kernel
theorem dL_law_370 : decode cL_law 370 = .ok (.iconst 0, 1) := by decide +kernel
theorem dL_law_371 : decode cL_law 371 = .ok (.ireturn, 1) := by decide +kernel
theorem dL_law_372 : decode cL_law 372 = .ok (.iload 5, 2) := by decide +kernel
theorem dL_law_374 : decode cL_law 374 = .ok (.ifCond .ne 15, 3) := by decide +kernel
theorem dL_law_377 : decode cL_law 377 = .ok (.aload_n 3, 1) := by decide +kernel
theorem dL_law_378 : decode cL_law 378 = .ok (.iconst 0, 1) := by decide +kernel
theorem dL_law_379 : decode cL_law 379 = .ok (.laload, 1) := by decide +kernel
theorem dL_law_380 : decode cL_law 380 = .ok (.iload 6, 2) := by decide +kernel
theorem dL_law_382 : decode cL_law 382 = .ok (.i2l, 1) := by decide +kernel
theorem dL_law_383 : decode cL_law 383 = .ok (.lcmp, 1) := by decide +kernel
theorem dL_law_384 : decode cL_law 384 = .ok (.ifCond .eq 5, 3) := by decide +kernel
theorem dL_law_387 : decode cL_law 387 = .ok (.iconst 0, 1) := by decide +kernel
theorem dL_law_388 : decode cL_law 388 = .ok (.ireturn, 1) := by decide +kernel
theorem dL_law_389 : decode cL_law 389 = .ok (.goto 989, 3) := by decide +kernel
theorem dL_law_392 : decode cL_law 392 = .ok (.aload_n 1, 1) := by decide +kernel
theorem dL_law_393 : decode cL_law 393 = .ok (.aload_n 0, 1) := by decide +kernel
theorem dL_law_394 : decode cL_law 394 = .ok (.iload 4, 2) := by decide +kernel
theorem dL_law_396 : decode cL_law 396 = .ok (.iconst 1, 1) := by decide +kernel
theorem dL_law_397 : decode cL_law 397 = .ok (.iadd, 1) := by decide +kernel
theorem dL_law_398 : decode cL_law 398 = .ok (.iaload, 1) := by decide +kernel
theorem dL_law_399 : decode cL_law 399 = .ok (.aload_n 3, 1) := by decide +kernel
theorem dL_law_400 : decode cL_law 400 = .ok (.invokestatic 96, 3) := by decide +kernel
theorem dL_law_403 : decode cL_law 403 = .ok (.istore 5, 2) := by decide +kernel
theorem dL_law_405 : decode cL_law 405 = .ok (.aload_n 2, 1) := by decide +kernel
theorem dL_law_406 : decode cL_law 406 = .ok (.aload_n 0, 1) := by decide +kernel
theorem dL_law_407 : decode cL_law 407 = .ok (.iload 4, 2) := by decide +kernel
theorem dL_law_409 : decode cL_law 409 = .ok (.iconst 1, 1) := by decide +kernel
theorem dL_law_410 : decode cL_law 410 = .ok (.iadd, 1) := by decide +kernel
theorem dL_law_411 : decode cL_law 411 = .ok (.iaload, 1) := by decide +kernel
theorem dL_law_412 : decode cL_law 412 = .ok (.invokevirtual 98, 3) := by decide +kernel
theorem dL_law_415 : decode cL_law 415 = .ok (.istore 6, 2) := by decide +kernel
theorem dL_law_417 : decode cL_law 417 = .ok (.aload_n 2, 1) := by decide +kernel
theorem dL_law_418 : decode cL_law 418 = .ok (.invokevirtual 83, 3) := by decide +kernel
theorem dL_law_421 : decode cL_law 421 = .ok (.iload 5, 2) := by decide +kernel
theorem dL_law_423 : decode cL_law 423 = .ok (.if_icmp .eq 5, 3) := by decide +kernel
theorem dL_law_426 : decode cL_law 426 = .ok (.iconst 0, 1) := by decide +kernel
theorem dL_law_427 : decode cL_law 427 = .ok (.ireturn, 1) := by decide +kernel
theorem dL_law_428 : decode cL_law 428 = .ok (.iload 5, 2) := by decide +kernel
theorem dL_law_430 : decode cL_law 430 = .ok (.ifCond .ne 15, 3) := by decide +kernel
theorem dL_law_433 : decode cL_law 433 = .ok (.aload_n 3, 1) := by decide +kernel
theorem dL_law_434 : decode cL_law 434 = .ok (.iconst 0, 1) := by decide +kernel
theorem dL_law_435 : decode cL_law 435 = .ok (.laload, 1) := by decide +kernel
theorem dL_law_436 : decode cL_law 436 = .ok (.iload 6, 2) := by decide +kernel
theorem dL_law_438 : decode cL_law 438 = .ok (.i2l, 1) := by decide +kernel
theorem dL_law_439 : decode cL_law 439 = .ok (.lcmp, 1) := by decide +kernel
theorem dL_law_440 : decode cL_law 440 = .ok (.ifCond .eq 5, 3) := by decide +kernel
theorem dL_law_443 : decode cL_law 443 = .ok (.iconst 0, 1) := by decide +kernel
theorem dL_law_444 : decode cL_law 444 = .ok (.ireturn, 1) := by decide +kernel
theorem dL_law_445 : decode cL_law 445 = .ok (.goto 933, 3) := by decide +kernel
theorem dL_law_448 : decode cL_law 448 = .ok (.aload_n 1, 1) := by decide +kernel
theorem dL_law_449 : decode cL_law 449 = .ok (.invokevirtual 99, 3) := by decide +kernel
theorem dL_law_452 : decode cL_law 452 = .ok (.aload_n 2, 1) := by decide +kernel
theorem dL_law_453 : decode cL_law 453 = .ok (.invokevirtual 102, 3) := by decide +kernel
theorem dL_law_456 : decode cL_law 456 = .ok (.if_icmp .eq 922, 3) := by decide +kernel
theorem dL_law_459 : decode cL_law 459 = .ok (.iconst 0, 1) := by decide +kernel
theorem dL_law_460 : decode cL_law 460 = .ok (.ireturn, 1) := by decide +kernel
theorem dL_law_461 : decode cL_law 461 = .ok (.aload_n 1, 1) := by decide +kernel
theorem dL_law_462 : decode cL_law 462 = .ok (.aload_n 0, 1) := by decide +kernel
theorem dL_law_463 : decode cL_law 463 = .ok (.iload 4, 2) := by decide +kernel
theorem dL_law_465 : decode cL_law 465 = .ok (.iconst 1, 1) := by decide +kernel
theorem dL_law_466 : decode cL_law 466 = .ok (.iadd, 1) := by decide +kernel
theorem dL_law_467 : decode cL_law 467 = .ok (.iaload, 1) := by decide +kernel
theorem dL_law_468 : decode cL_law 468 = .ok (.aload_n 3, 1) := by decide +kernel
theorem dL_law_469 : decode cL_law 469 = .ok (.invokestatic 103, 3) := by decide +kernel
theorem dL_law_472 : decode cL_law 472 = .ok (.istore 5, 2) := by decide +kernel
theorem dL_law_474 : decode cL_law 474 = .ok (.aload_n 2, 1) := by decide +kernel
theorem dL_law_475 : decode cL_law 475 = .ok (.aload_n 0, 1) := by decide +kernel
theorem dL_law_476 : decode cL_law 476 = .ok (.iload 4, 2) := by decide +kernel
theorem dL_law_478 : decode cL_law 478 = .ok (.iconst 1, 1) := by decide +kernel
theorem dL_law_479 : decode cL_law 479 = .ok (.iadd, 1) := by decide +kernel
theorem dL_law_480 : decode cL_law 480 = .ok (.iaload, 1) := by decide +kernel
theorem dL_law_481 : decode cL_law 481 = .ok (.invokevirtual 105, 3) := by decide +kernel
theorem dL_law_484 : decode cL_law 484 = .ok (.istore 6, 2) := by decide +kernel
theorem dL_law_486 : decode cL_law 486 = .ok (.aload_n 2, 1) := by decide +kernel
theorem dL_law_487 : decode cL_law 487 = .ok (.invokevirtual 83, 3) := by decide +kernel
theorem dL_law_490 : decode cL_law 490 = .ok (.iload 5, 2) := by decide +kernel
theorem dL_law_492 : decode cL_law 492 = .ok (.if_icmp .eq 5, 3) := by decide +kernel
theorem dL_law_495 : decode cL_law 495 = .ok (.iconst 0, 1) := by decide +kernel
theorem dL_law_496 : decode cL_law 496 = .ok (.ireturn, 1) := by decide +kernel
theorem dL_law_497 : decode cL_law 497 = .ok (.iload 5, 2) := by decide +kernel
theorem dL_law_499 : decode cL_law 499 = .ok (.ifCond .ne 15, 3) := by decide +kernel
theorem dL_law_502 : decode cL_law 502 = .ok (.aload_n 3, 1) := by decide +kernel
theorem dL_law_503 : decode cL_law 503 = .ok (.iconst 0, 1) := by decide +kernel
theorem dL_law_504 : decode cL_law 504 = .ok (.laload, 1) := by decide +kernel
theorem dL_law_505 : decode cL_law 505 = .ok (.iload 6, 2) := by decide +kernel
theorem dL_law_507 : decode cL_law 507 = .ok (.i2l, 1) := by decide +kernel
theorem dL_law_508 : decode cL_law 508 = .ok (.lcmp, 1) := by decide +kernel
theorem dL_law_509 : decode cL_law 509 = .ok (.ifCond .eq 5, 3) := by decide +kernel
theorem dL_law_512 : decode cL_law 512 = .ok (.iconst 0, 1) := by decide +kernel
theorem dL_law_513 : decode cL_law 513 = .ok (.ireturn, 1) := by decide +kernel
theorem dL_law_514 : decode cL_law 514 = .ok (.goto 864, 3) := by decide +kernel
theorem dL_law_517 : decode cL_law 517 = .ok (.aload_n 1, 1) := by decide +kernel
theorem dL_law_518 : decode cL_law 518 = .ok (.invokevirtual 106, 3) := by decide +kernel
theorem dL_law_521 : decode cL_law 521 = .ok (.aload_n 2, 1) := by decide +kernel
theorem dL_law_522 : decode cL_law 522 = .ok (.invokevirtual 109, 3) := by decide +kernel
theorem dL_law_525 : decode cL_law 525 = .ok (.if_icmp .eq 853, 3) := by decide +kernel
theorem dL_law_528 : decode cL_law 528 = .ok (.iconst 0, 1) := by decide +kernel
theorem dL_law_529 : decode cL_law 529 = .ok (.ireturn, 1) := by decide +kernel
theorem dL_law_530 : decode cL_law 530 = .ok (.aload_n 1, 1) := by decide +kernel
theorem dL_law_531 : decode cL_law 531 = .ok (.invokevirtual 110, 3) := by decide +kernel
theorem dL_law_534 : decode cL_law 534 = .ok (.aload_n 2, 1) := by decide +kernel
theorem dL_law_535 : decode cL_law 535 = .ok (.invokevirtual 113, 3) := by decide +kernel
theorem dL_law_538 : decode cL_law 538 = .ok (.if_icmp .eq 840, 3) := by decide +kernel
theorem dL_law_541 : decode cL_law 541 = .ok (.iconst 0, 1) := by decide +kernel
theorem dL_law_542 : decode cL_law 542 = .ok (.ireturn, 1) := by decide +kernel
theorem dL_law_543 : decode cL_law 543 = .ok (.aload_n 1, 1) := by decide +kernel
theorem dL_law_544 : decode cL_law 544 = .ok (.aload_n 0, 1) := by decide +kernel
theorem dL_law_545 : decode cL_law 545 = .ok (.iload 4, 2) := by decide +kernel
theorem dL_law_547 : decode cL_law 547 = .ok (.iconst 1, 1) := by decide +kernel
theorem dL_law_548 : decode cL_law 548 = .ok (.iadd, 1) := by decide +kernel
theorem dL_law_549 : decode cL_law 549 = .ok (.iaload, 1) := by decide +kernel
theorem dL_law_550 : decode cL_law 550 = .ok (.aload_n 3, 1) := by decide +kernel
theorem dL_law_551 : decode cL_law 551 = .ok (.invokestatic 114, 3) := by decide +kernel
theorem dL_law_554 : decode cL_law 554 = .ok (.istore 5, 2) := by decide +kernel
theorem dL_law_556 : decode cL_law 556 = .ok (.aload_n 2, 1) := by decide +kernel
theorem dL_law_557 : decode cL_law 557 = .ok (.aload_n 0, 1) := by decide +kernel
theorem dL_law_558 : decode cL_law 558 = .ok (.iload 4, 2) := by decide +kernel
theorem dL_law_560 : decode cL_law 560 = .ok (.iconst 1, 1) := by decide +kernel
theorem dL_law_561 : decode cL_law 561 = .ok (.iadd, 1) := by decide +kernel
theorem dL_law_562 : decode cL_law 562 = .ok (.iaload, 1) := by decide +kernel
theorem dL_law_563 : decode cL_law 563 = .ok (.invokevirtual 116, 3) := by decide +kernel
theorem dL_law_566 : decode cL_law 566 = .ok (.istore 6, 2) := by decide +kernel
theorem dL_law_568 : decode cL_law 568 = .ok (.aload_n 2, 1) := by decide +kernel
theorem dL_law_569 : decode cL_law 569 = .ok (.invokevirtual 83, 3) := by decide +kernel
theorem dL_law_572 : decode cL_law 572 = .ok (.iload 5, 2) := by decide +kernel
theorem dL_law_574 : decode cL_law 574 = .ok (.if_icmp .eq 5, 3) := by decide +kernel
theorem dL_law_577 : decode cL_law 577 = .ok (.iconst 0, 1) := by decide +kernel
theorem dL_law_578 : decode cL_law 578 = .ok (.ireturn, 1) := by decide +kernel
theorem dL_law_579 : decode cL_law 579 = .ok (.iload 5, 2) := by decide +kernel
theorem dL_law_581 : decode cL_law 581 = .ok (.ifCond .ne 15, 3) := by decide +kernel
theorem dL_law_584 : decode cL_law 584 = .ok (.aload_n 3, 1) := by decide +kernel
theorem dL_law_585 : decode cL_law 585 = .ok (.iconst 0, 1) := by decide +kernel
theorem dL_law_586 : decode cL_law 586 = .ok (.laload, 1) := by decide +kernel
theorem dL_law_587 : decode cL_law 587 = .ok (.iload 6, 2) := by decide +kernel
theorem dL_law_589 : decode cL_law 589 = .ok (.i2l, 1) := by decide +kernel
theorem dL_law_590 : decode cL_law 590 = .ok (.lcmp, 1) := by decide +kernel
theorem dL_law_591 : decode cL_law 591 = .ok (.ifCond .eq 5, 3) := by decide +kernel
theorem dL_law_594 : decode cL_law 594 = .ok (.iconst 0, 1) := by decide +kernel
theorem dL_law_595 : decode cL_law 595 = .ok (.ireturn, 1) := by decide +kernel
theorem dL_law_596 : decode cL_law 596 = .ok (.goto 782, 3) := by decide +kernel
theorem dL_law_599 : decode cL_law 599 = .ok (.aload_n 1, 1) := by decide +kernel
theorem dL_law_600 : decode cL_law 600 = .ok (.aload_n 0, 1) := by decide +kernel
theorem dL_law_601 : decode cL_law 601 = .ok (.iload 4, 2) := by decide +kernel
theorem dL_law_603 : decode cL_law 603 = .ok (.iconst 1, 1) := by decide +kernel
theorem dL_law_604 : decode cL_law 604 = .ok (.iadd, 1) := by decide +kernel
theorem dL_law_605 : decode cL_law 605 = .ok (.iaload, 1) := by decide +kernel
theorem dL_law_606 : decode cL_law 606 = .ok (.aload_n 3, 1) := by decide +kernel
theorem dL_law_607 : decode cL_law 607 = .ok (.invokestatic 117, 3) := by decide +kernel
theorem dL_law_610 : decode cL_law 610 = .ok (.istore 5, 2) := by decide +kernel
theorem dL_law_612 : decode cL_law 612 = .ok (.aload_n 2, 1) := by decide +kernel
theorem dL_law_613 : decode cL_law 613 = .ok (.aload_n 0, 1) := by decide +kernel
theorem dL_law_614 : decode cL_law 614 = .ok (.iload 4, 2) := by decide +kernel
theorem dL_law_616 : decode cL_law 616 = .ok (.iconst 1, 1) := by decide +kernel
theorem dL_law_617 : decode cL_law 617 = .ok (.iadd, 1) := by decide +kernel
theorem dL_law_618 : decode cL_law 618 = .ok (.iaload, 1) := by decide +kernel
theorem dL_law_619 : decode cL_law 619 = .ok (.invokevirtual 119, 3) := by decide +kernel
theorem dL_law_622 : decode cL_law 622 = .ok (.istore 6, 2) := by decide +kernel
theorem dL_law_624 : decode cL_law 624 = .ok (.aload_n 2, 1) := by decide +kernel
theorem dL_law_625 : decode cL_law 625 = .ok (.invokevirtual 83, 3) := by decide +kernel
theorem dL_law_628 : decode cL_law 628 = .ok (.iload 5, 2) := by decide +kernel
theorem dL_law_630 : decode cL_law 630 = .ok (.if_icmp .eq 5, 3) := by decide +kernel
theorem dL_law_633 : decode cL_law 633 = .ok (.iconst 0, 1) := by decide +kernel
theorem dL_law_634 : decode cL_law 634 = .ok (.ireturn, 1) := by decide +kernel
theorem dL_law_635 : decode cL_law 635 = .ok (.iload 5, 2) := by decide +kernel
theorem dL_law_637 : decode cL_law 637 = .ok (.ifCond .ne 15, 3) := by decide +kernel
theorem dL_law_640 : decode cL_law 640 = .ok (.aload_n 3, 1) := by decide +kernel
theorem dL_law_641 : decode cL_law 641 = .ok (.iconst 0, 1) := by decide +kernel
theorem dL_law_642 : decode cL_law 642 = .ok (.laload, 1) := by decide +kernel
theorem dL_law_643 : decode cL_law 643 = .ok (.iload 6, 2) := by decide +kernel
theorem dL_law_645 : decode cL_law 645 = .ok (.i2l, 1) := by decide +kernel
theorem dL_law_646 : decode cL_law 646 = .ok (.lcmp, 1) := by decide +kernel
theorem dL_law_647 : decode cL_law 647 = .ok (.ifCond .eq 5, 3) := by decide +kernel
theorem dL_law_650 : decode cL_law 650 = .ok (.iconst 0, 1) := by decide +kernel
theorem dL_law_651 : decode cL_law 651 = .ok (.ireturn, 1) := by decide +kernel
theorem dL_law_652 : decode cL_law 652 = .ok (.goto 726, 3) := by decide +kernel
theorem dL_law_655 : decode cL_law 655 = .ok (.aload_n 1, 1) := by decide +kernel
theorem dL_law_656 : decode cL_law 656 = .ok (.aload_n 0, 1) := by decide +kernel
theorem dL_law_657 : decode cL_law 657 = .ok (.iload 4, 2) := by decide +kernel
theorem dL_law_659 : decode cL_law 659 = .ok (.iconst 1, 1) := by decide +kernel
theorem dL_law_660 : decode cL_law 660 = .ok (.iadd, 1) := by decide +kernel
theorem dL_law_661 : decode cL_law 661 = .ok (.iaload, 1) := by decide +kernel
theorem dL_law_662 : decode cL_law 662 = .ok (.aload_n 3, 1) := by decide +kernel
theorem dL_law_663 : decode cL_law 663 = .ok (.invokestatic 120, 3) := by decide +kernel
theorem dL_law_666 : decode cL_law 666 = .ok (.istore 5, 2) := by decide +kernel
theorem dL_law_668 : decode cL_law 668 = .ok (.aload_n 2, 1) := by decide +kernel
theorem dL_law_669 : decode cL_law 669 = .ok (.aload_n 0, 1) := by decide +kernel
theorem dL_law_670 : decode cL_law 670 = .ok (.iload 4, 2) := by decide +kernel
theorem dL_law_672 : decode cL_law 672 = .ok (.iconst 1, 1) := by decide +kernel
theorem dL_law_673 : decode cL_law 673 = .ok (.iadd, 1) := by decide +kernel
theorem dL_law_674 : decode cL_law 674 = .ok (.iaload, 1) := by decide +kernel
theorem dL_law_675 : decode cL_law 675 = .ok (.invokevirtual 122, 3) := by decide +kernel
theorem dL_law_678 : decode cL_law 678 = .ok (.istore 6, 2) := by decide +kernel
theorem dL_law_680 : decode cL_law 680 = .ok (.aload_n 2, 1) := by decide +kernel
theorem dL_law_681 : decode cL_law 681 = .ok (.invokevirtual 83, 3) := by decide +kernel
theorem dL_law_684 : decode cL_law 684 = .ok (.iload 5, 2) := by decide +kernel
theorem dL_law_686 : decode cL_law 686 = .ok (.if_icmp .eq 5, 3) := by decide +kernel
theorem dL_law_689 : decode cL_law 689 = .ok (.iconst 0, 1) := by decide +kernel
theorem dL_law_690 : decode cL_law 690 = .ok (.ireturn, 1) := by decide +kernel
theorem dL_law_691 : decode cL_law 691 = .ok (.iload 5, 2) := by decide +kernel
theorem dL_law_693 : decode cL_law 693 = .ok (.ifCond .ne 15, 3) := by decide +kernel
theorem dL_law_696 : decode cL_law 696 = .ok (.aload_n 3, 1) := by decide +kernel
theorem dL_law_697 : decode cL_law 697 = .ok (.iconst 0, 1) := by decide +kernel
theorem dL_law_698 : decode cL_law 698 = .ok (.laload, 1) := by decide +kernel
theorem dL_law_699 : decode cL_law 699 = .ok (.iload 6, 2) := by decide +kernel
theorem dL_law_701 : decode cL_law 701 = .ok (.i2l, 1) := by decide +kernel
theorem dL_law_702 : decode cL_law 702 = .ok (.lcmp, 1) := by decide +kernel
theorem dL_law_703 : decode cL_law 703 = .ok (.ifCond .eq 5, 3) := by decide +kernel
theorem dL_law_706 : decode cL_law 706 = .ok (.iconst 0, 1) := by decide +kernel
theorem dL_law_707 : decode cL_law 707 = .ok (.ireturn, 1) := by decide +kernel
theorem dL_law_708 : decode cL_law 708 = .ok (.goto 670, 3) := by decide +kernel
theorem dL_law_711 : decode cL_law 711 = .ok (.aload_n 1, 1) := by decide +kernel
theorem dL_law_712 : decode cL_law 712 = .ok (.aload_n 3, 1) := by decide +kernel
theorem dL_law_713 : decode cL_law 713 = .ok (.invokestatic 123, 3) := by decide +kernel
theorem dL_law_716 : decode cL_law 716 = .ok (.istore 5, 2) := by decide +kernel
theorem dL_law_718 : decode cL_law 718 = .ok (.aload_n 2, 1) := by decide +kernel
theorem dL_law_719 : decode cL_law 719 = .ok (.invokevirtual 126, 3) := by decide +kernel
theorem dL_law_722 : decode cL_law 722 = .ok (.istore 6, 2) := by decide +kernel
theorem dL_law_724 : decode cL_law 724 = .ok (.aload_n 2, 1) := by decide +kernel
theorem dL_law_725 : decode cL_law 725 = .ok (.invokevirtual 83, 3) := by decide +kernel
theorem dL_law_728 : decode cL_law 728 = .ok (.iload 5, 2) := by decide +kernel
theorem dL_law_730 : decode cL_law 730 = .ok (.if_icmp .eq 5, 3) := by decide +kernel
theorem dL_law_733 : decode cL_law 733 = .ok (.iconst 0, 1) := by decide +kernel
theorem dL_law_734 : decode cL_law 734 = .ok (.ireturn, 1) := by decide +kernel
theorem dL_law_735 : decode cL_law 735 = .ok (.iload 5, 2) := by decide +kernel
theorem dL_law_737 : decode cL_law 737 = .ok (.ifCond .ne 15, 3) := by decide +kernel
theorem dL_law_740 : decode cL_law 740 = .ok (.aload_n 3, 1) := by decide +kernel
theorem dL_law_741 : decode cL_law 741 = .ok (.iconst 0, 1) := by decide +kernel
theorem dL_law_742 : decode cL_law 742 = .ok (.laload, 1) := by decide +kernel
theorem dL_law_743 : decode cL_law 743 = .ok (.iload 6, 2) := by decide +kernel
theorem dL_law_745 : decode cL_law 745 = .ok (.i2l, 1) := by decide +kernel
theorem dL_law_746 : decode cL_law 746 = .ok (.lcmp, 1) := by decide +kernel
theorem dL_law_747 : decode cL_law 747 = .ok (.ifCond .eq 5, 3) := by decide +kernel
theorem dL_law_750 : decode cL_law 750 = .ok (.iconst 0, 1) := by decide +kernel
theorem dL_law_751 : decode cL_law 751 = .ok (.ireturn, 1) := by decide +kernel
theorem dL_law_752 : decode cL_law 752 = .ok (.goto 626, 3) := by decide +kernel
theorem dL_law_755 : decode cL_law 755 = .ok (.aload_n 1, 1) := by decide +kernel
theorem dL_law_756 : decode cL_law 756 = .ok (.aload_n 0, 1) := by decide +kernel
theorem dL_law_757 : decode cL_law 757 = .ok (.iload 4, 2) := by decide +kernel
theorem dL_law_759 : decode cL_law 759 = .ok (.iconst 1, 1) := by decide +kernel
theorem dL_law_760 : decode cL_law 760 = .ok (.iadd, 1) := by decide +kernel
theorem dL_law_761 : decode cL_law 761 = .ok (.iaload, 1) := by decide +kernel
theorem dL_law_762 : decode cL_law 762 = .ok (.aload_n 0, 1) := by decide +kernel
theorem dL_law_763 : decode cL_law 763 = .ok (.iload 4, 2) := by decide +kernel
theorem dL_law_765 : decode cL_law 765 = .ok (.iconst 2, 1) := by decide +kernel
theorem dL_law_766 : decode cL_law 766 = .ok (.iadd, 1) := by decide +kernel
theorem dL_law_767 : decode cL_law 767 = .ok (.iaload, 1) := by decide +kernel
theorem dL_law_768 : decode cL_law 768 = .ok (.aload_n 3, 1) := by decide +kernel
theorem dL_law_769 : decode cL_law 769 = .ok (.invokestatic 127, 3) := by decide +kernel
theorem dL_law_772 : decode cL_law 772 = .ok (.istore 5, 2) := by decide +kernel
theorem dL_law_774 : decode cL_law 774 = .ok (.aload_n 2, 1) := by decide +kernel
theorem dL_law_775 : decode cL_law 775 = .ok (.aload_n 0, 1) := by decide +kernel
theorem dL_law_776 : decode cL_law 776 = .ok (.iload 4, 2) := by decide +kernel
theorem dL_law_778 : decode cL_law 778 = .ok (.iconst 1, 1) := by decide +kernel
theorem dL_law_779 : decode cL_law 779 = .ok (.iadd, 1) := by decide +kernel
theorem dL_law_780 : decode cL_law 780 = .ok (.iaload, 1) := by decide +kernel
theorem dL_law_781 : decode cL_law 781 = .ok (.aload_n 0, 1) := by decide +kernel
theorem dL_law_782 : decode cL_law 782 = .ok (.iload 4, 2) := by decide +kernel
theorem dL_law_784 : decode cL_law 784 = .ok (.iconst 2, 1) := by decide +kernel
theorem dL_law_785 : decode cL_law 785 = .ok (.iadd, 1) := by decide +kernel
theorem dL_law_786 : decode cL_law 786 = .ok (.iaload, 1) := by decide +kernel
theorem dL_law_787 : decode cL_law 787 = .ok (.invokevirtual 129, 3) := by decide +kernel
theorem dL_law_790 : decode cL_law 790 = .ok (.istore 6, 2) := by decide +kernel
theorem dL_law_792 : decode cL_law 792 = .ok (.aload_n 2, 1) := by decide +kernel
theorem dL_law_793 : decode cL_law 793 = .ok (.invokevirtual 83, 3) := by decide +kernel
theorem dL_law_796 : decode cL_law 796 = .ok (.iload 5, 2) := by decide +kernel
theorem dL_law_798 : decode cL_law 798 = .ok (.if_icmp .eq 5, 3) := by decide +kernel
theorem dL_law_801 : decode cL_law 801 = .ok (.iconst 0, 1) := by decide +kernel
theorem dL_law_802 : decode cL_law 802 = .ok (.ireturn, 1) := by decide +kernel
theorem dL_law_803 : decode cL_law 803 = .ok (.iload 5, 2) := by decide +kernel
theorem dL_law_805 : decode cL_law 805 = .ok (.ifCond .ne 15, 3) := by decide +kernel
theorem dL_law_808 : decode cL_law 808 = .ok (.aload_n 3, 1) := by decide +kernel
theorem dL_law_809 : decode cL_law 809 = .ok (.iconst 0, 1) := by decide +kernel
theorem dL_law_810 : decode cL_law 810 = .ok (.laload, 1) := by decide +kernel
theorem dL_law_811 : decode cL_law 811 = .ok (.iload 6, 2) := by decide +kernel
theorem dL_law_813 : decode cL_law 813 = .ok (.i2l, 1) := by decide +kernel
theorem dL_law_814 : decode cL_law 814 = .ok (.lcmp, 1) := by decide +kernel
theorem dL_law_815 : decode cL_law 815 = .ok (.ifCond .eq 5, 3) := by decide +kernel
theorem dL_law_818 : decode cL_law 818 = .ok (.iconst 0, 1) := by decide +kernel
theorem dL_law_819 : decode cL_law 819 = .ok (.ireturn, 1) := by decide +kernel
theorem dL_law_820 : decode cL_law 820 = .ok (.goto 558, 3) := by decide +kernel
theorem dL_law_823 : decode cL_law 823 = .ok (.aload_n 1, 1) := by decide +kernel
theorem dL_law_824 : decode cL_law 824 = .ok (.aload_n 0, 1) := by decide +kernel
theorem dL_law_825 : decode cL_law 825 = .ok (.iload 4, 2) := by decide +kernel
theorem dL_law_827 : decode cL_law 827 = .ok (.iconst 1, 1) := by decide +kernel
theorem dL_law_828 : decode cL_law 828 = .ok (.iadd, 1) := by decide +kernel
theorem dL_law_829 : decode cL_law 829 = .ok (.iaload, 1) := by decide +kernel
theorem dL_law_830 : decode cL_law 830 = .ok (.aload_n 0, 1) := by decide +kernel
theorem dL_law_831 : decode cL_law 831 = .ok (.iload 4, 2) := by decide +kernel
theorem dL_law_833 : decode cL_law 833 = .ok (.iconst 2, 1) := by decide +kernel
theorem dL_law_834 : decode cL_law 834 = .ok (.iadd, 1) := by decide +kernel
theorem dL_law_835 : decode cL_law 835 = .ok (.iaload, 1) := by decide +kernel
theorem dL_law_836 : decode cL_law 836 = .ok (.aload_n 3, 1) := by decide +kernel
theorem dL_law_837 : decode cL_law 837 = .ok (.invokestatic 130, 3) := by decide +kernel
theorem dL_law_840 : decode cL_law 840 = .ok (.istore 5, 2) := by decide +kernel
theorem dL_law_842 : decode cL_law 842 = .ok (.aload_n 2, 1) := by decide +kernel
theorem dL_law_843 : decode cL_law 843 = .ok (.aload_n 0, 1) := by decide +kernel
theorem dL_law_844 : decode cL_law 844 = .ok (.iload 4, 2) := by decide +kernel
theorem dL_law_846 : decode cL_law 846 = .ok (.iconst 1, 1) := by decide +kernel
theorem dL_law_847 : decode cL_law 847 = .ok (.iadd, 1) := by decide +kernel
theorem dL_law_848 : decode cL_law 848 = .ok (.iaload, 1) := by decide +kernel
theorem dL_law_849 : decode cL_law 849 = .ok (.aload_n 0, 1) := by decide +kernel
theorem dL_law_850 : decode cL_law 850 = .ok (.iload 4, 2) := by decide +kernel
theorem dL_law_852 : decode cL_law 852 = .ok (.iconst 2, 1) := by decide +kernel
theorem dL_law_853 : decode cL_law 853 = .ok (.iadd, 1) := by decide +kernel
theorem dL_law_854 : decode cL_law 854 = .ok (.iaload, 1) := by decide +kernel
theorem dL_law_855 : decode cL_law 855 = .ok (.invokevirtual 132, 3) := by decide +kernel
theorem dL_law_858 : decode cL_law 858 = .ok (.istore 6, 2) := by decide +kernel
theorem dL_law_860 : decode cL_law 860 = .ok (.aload_n 2, 1) := by decide +kernel
theorem dL_law_861 : decode cL_law 861 = .ok (.invokevirtual 83, 3) := by decide +kernel
theorem dL_law_864 : decode cL_law 864 = .ok (.iload 5, 2) := by decide +kernel
theorem dL_law_866 : decode cL_law 866 = .ok (.if_icmp .eq 5, 3) := by decide +kernel
theorem dL_law_869 : decode cL_law 869 = .ok (.iconst 0, 1) := by decide +kernel
theorem dL_law_870 : decode cL_law 870 = .ok (.ireturn, 1) := by decide +kernel
theorem dL_law_871 : decode cL_law 871 = .ok (.iload 5, 2) := by decide +kernel
theorem dL_law_873 : decode cL_law 873 = .ok (.ifCond .ne 15, 3) := by decide +kernel
theorem dL_law_876 : decode cL_law 876 = .ok (.aload_n 3, 1) := by decide +kernel
theorem dL_law_877 : decode cL_law 877 = .ok (.iconst 0, 1) := by decide +kernel
theorem dL_law_878 : decode cL_law 878 = .ok (.laload, 1) := by decide +kernel
theorem dL_law_879 : decode cL_law 879 = .ok (.iload 6, 2) := by decide +kernel
theorem dL_law_881 : decode cL_law 881 = .ok (.i2l, 1) := by decide +kernel
theorem dL_law_882 : decode cL_law 882 = .ok (.lcmp, 1) := by decide +kernel
theorem dL_law_883 : decode cL_law 883 = .ok (.ifCond .eq 5, 3) := by decide +kernel
theorem dL_law_886 : decode cL_law 886 = .ok (.iconst 0, 1) := by decide +kernel
theorem dL_law_887 : decode cL_law 887 = .ok (.ireturn, 1) := by decide +kernel
theorem dL_law_888 : decode cL_law 888 = .ok (.goto 490, 3) := by decide +kernel
theorem dL_law_891 : decode cL_law 891 = .ok (.aload_n 1, 1) := by decide +kernel
theorem dL_law_892 : decode cL_law 892 = .ok (.aload_n 0, 1) := by decide +kernel
theorem dL_law_893 : decode cL_law 893 = .ok (.iload 4, 2) := by decide +kernel
theorem dL_law_895 : decode cL_law 895 = .ok (.iconst 1, 1) := by decide +kernel
theorem dL_law_896 : decode cL_law 896 = .ok (.iadd, 1) := by decide +kernel
theorem dL_law_897 : decode cL_law 897 = .ok (.iaload, 1) := by decide +kernel
theorem dL_law_898 : decode cL_law 898 = .ok (.aload_n 0, 1) := by decide +kernel
theorem dL_law_899 : decode cL_law 899 = .ok (.iload 4, 2) := by decide +kernel
theorem dL_law_901 : decode cL_law 901 = .ok (.iconst 2, 1) := by decide +kernel
theorem dL_law_902 : decode cL_law 902 = .ok (.iadd, 1) := by decide +kernel
theorem dL_law_903 : decode cL_law 903 = .ok (.iaload, 1) := by decide +kernel
theorem dL_law_904 : decode cL_law 904 = .ok (.aload_n 0, 1) := by decide +kernel
theorem dL_law_905 : decode cL_law 905 = .ok (.iload 4, 2) := by decide +kernel
theorem dL_law_907 : decode cL_law 907 = .ok (.iconst 3, 1) := by decide +kernel
theorem dL_law_908 : decode cL_law 908 = .ok (.iadd, 1) := by decide +kernel
theorem dL_law_909 : decode cL_law 909 = .ok (.iaload, 1) := by decide +kernel
theorem dL_law_910 : decode cL_law 910 = .ok (.aload_n 3, 1) := by decide +kernel
theorem dL_law_911 : decode cL_law 911 = .ok (.invokestatic 133, 3) := by decide +kernel
theorem dL_law_914 : decode cL_law 914 = .ok (.istore 5, 2) := by decide +kernel
theorem dL_law_916 : decode cL_law 916 = .ok (.aload_n 2, 1) := by decide +kernel
theorem dL_law_917 : decode cL_law 917 = .ok (.aload_n 0, 1) := by decide +kernel
theorem dL_law_918 : decode cL_law 918 = .ok (.iload 4, 2) := by decide +kernel
theorem dL_law_920 : decode cL_law 920 = .ok (.iconst 1, 1) := by decide +kernel
theorem dL_law_921 : decode cL_law 921 = .ok (.iadd, 1) := by decide +kernel
theorem dL_law_922 : decode cL_law 922 = .ok (.iaload, 1) := by decide +kernel
theorem dL_law_923 : decode cL_law 923 = .ok (.aload_n 0, 1) := by decide +kernel
theorem dL_law_924 : decode cL_law 924 = .ok (.iload 4, 2) := by decide +kernel
theorem dL_law_926 : decode cL_law 926 = .ok (.iconst 2, 1) := by decide +kernel
theorem dL_law_927 : decode cL_law 927 = .ok (.iadd, 1) := by decide +kernel
theorem dL_law_928 : decode cL_law 928 = .ok (.iaload, 1) := by decide +kernel
theorem dL_law_929 : decode cL_law 929 = .ok (.aload_n 0, 1) := by decide +kernel
theorem dL_law_930 : decode cL_law 930 = .ok (.iload 4, 2) := by decide +kernel
theorem dL_law_932 : decode cL_law 932 = .ok (.iconst 3, 1) := by decide +kernel
theorem dL_law_933 : decode cL_law 933 = .ok (.iadd, 1) := by decide +kernel
theorem dL_law_934 : decode cL_law 934 = .ok (.iaload, 1) := by decide +kernel
theorem dL_law_935 : decode cL_law 935 = .ok (.invokevirtual 136, 3) := by decide +kernel
theorem dL_law_938 : decode cL_law 938 = .ok (.istore 6, 2) := by decide +kernel
theorem dL_law_940 : decode cL_law 940 = .ok (.aload_n 2, 1) := by decide +kernel
theorem dL_law_941 : decode cL_law 941 = .ok (.invokevirtual 83, 3) := by decide +kernel
theorem dL_law_944 : decode cL_law 944 = .ok (.iload 5, 2) := by decide +kernel
theorem dL_law_946 : decode cL_law 946 = .ok (.if_icmp .eq 5, 3) := by decide +kernel
theorem dL_law_949 : decode cL_law 949 = .ok (.iconst 0, 1) := by decide +kernel
theorem dL_law_950 : decode cL_law 950 = .ok (.ireturn, 1) := by decide +kernel
theorem dL_law_951 : decode cL_law 951 = .ok (.iload 5, 2) := by decide +kernel
theorem dL_law_953 : decode cL_law 953 = .ok (.ifCond .ne 15, 3) := by decide +kernel
theorem dL_law_956 : decode cL_law 956 = .ok (.aload_n 3, 1) := by decide +kernel
theorem dL_law_957 : decode cL_law 957 = .ok (.iconst 0, 1) := by decide +kernel
theorem dL_law_958 : decode cL_law 958 = .ok (.laload, 1) := by decide +kernel
theorem dL_law_959 : decode cL_law 959 = .ok (.iload 6, 2) := by decide +kernel
theorem dL_law_961 : decode cL_law 961 = .ok (.i2l, 1) := by decide +kernel
theorem dL_law_962 : decode cL_law 962 = .ok (.lcmp, 1) := by decide +kernel
theorem dL_law_963 : decode cL_law 963 = .ok (.ifCond .eq 5, 3) := by decide +kernel
theorem dL_law_966 : decode cL_law 966 = .ok (.iconst 0, 1) := by decide +kernel
theorem dL_law_967 : decode cL_law 967 = .ok (.ireturn, 1) := by decide +kernel
theorem dL_law_968 : decode cL_law 968 = .ok (.goto 410, 3) := by decide +kernel
theorem dL_law_971 : decode cL_law 971 = .ok (.aload_n 1, 1) := by decide +kernel
theorem dL_law_972 : decode cL_law 972 = .ok (.aload_n 0, 1) := by decide +kernel
theorem dL_law_973 : decode cL_law 973 = .ok (.iload 4, 2) := by decide +kernel
theorem dL_law_975 : decode cL_law 975 = .ok (.iconst 1, 1) := by decide +kernel
theorem dL_law_976 : decode cL_law 976 = .ok (.iadd, 1) := by decide +kernel
theorem dL_law_977 : decode cL_law 977 = .ok (.iaload, 1) := by decide +kernel
theorem dL_law_978 : decode cL_law 978 = .ok (.aload_n 0, 1) := by decide +kernel
theorem dL_law_979 : decode cL_law 979 = .ok (.iload 4, 2) := by decide +kernel
theorem dL_law_981 : decode cL_law 981 = .ok (.iconst 2, 1) := by decide +kernel
theorem dL_law_982 : decode cL_law 982 = .ok (.iadd, 1) := by decide +kernel
theorem dL_law_983 : decode cL_law 983 = .ok (.iaload, 1) := by decide +kernel
theorem dL_law_984 : decode cL_law 984 = .ok (.aload_n 0, 1) := by decide +kernel
theorem dL_law_985 : decode cL_law 985 = .ok (.iload 4, 2) := by decide +kernel
theorem dL_law_987 : decode cL_law 987 = .ok (.iconst 3, 1) := by decide +kernel
theorem dL_law_988 : decode cL_law 988 = .ok (.iadd, 1) := by decide +kernel
theorem dL_law_989 : decode cL_law 989 = .ok (.iaload, 1) := by decide +kernel
theorem dL_law_990 : decode cL_law 990 = .ok (.aload_n 3, 1) := by decide +kernel
theorem dL_law_991 : decode cL_law 991 = .ok (.invokestatic 137, 3) := by decide +kernel
theorem dL_law_994 : decode cL_law 994 = .ok (.istore 5, 2) := by decide +kernel
theorem dL_law_996 : decode cL_law 996 = .ok (.aload_n 2, 1) := by decide +kernel
theorem dL_law_997 : decode cL_law 997 = .ok (.aload_n 0, 1) := by decide +kernel
theorem dL_law_998 : decode cL_law 998 = .ok (.iload 4, 2) := by decide +kernel
theorem dL_law_1000 : decode cL_law 1000 = .ok (.iconst 1, 1) := by decide +kernel
theorem dL_law_1001 : decode cL_law 1001 = .ok (.iadd, 1) := by decide +kernel
theorem dL_law_1002 : decode cL_law 1002 = .ok (.iaload, 1) := by decide +kernel
theorem dL_law_1003 : decode cL_law 1003 = .ok (.aload_n 0, 1) := by decide +kernel
theorem dL_law_1004 : decode cL_law 1004 = .ok (.iload 4, 2) := by decide +kernel
theorem dL_law_1006 : decode cL_law 1006 = .ok (.iconst 2, 1) := by decide +kernel
theorem dL_law_1007 : decode cL_law 1007 = .ok (.iadd, 1) := by decide +kernel
theorem dL_law_1008 : decode cL_law 1008 = .ok (.iaload, 1) := by decide +kernel
theorem dL_law_1009 : decode cL_law 1009 = .ok (.aload_n 0, 1) := by decide +kernel
theorem dL_law_1010 : decode cL_law 1010 = .ok (.iload 4, 2) := by decide +kernel
theorem dL_law_1012 : decode cL_law 1012 = .ok (.iconst 3, 1) := by decide +kernel
theorem dL_law_1013 : decode cL_law 1013 = .ok (.iadd, 1) := by decide +kernel
theorem dL_law_1014 : decode cL_law 1014 = .ok (.iaload, 1) := by decide +kernel
theorem dL_law_1015 : decode cL_law 1015 = .ok (.invokevirtual 139, 3) := by decide +kernel
theorem dL_law_1018 : decode cL_law 1018 = .ok (.istore 6, 2) := by decide +kernel
theorem dL_law_1020 : decode cL_law 1020 = .ok (.aload_n 2, 1) := by decide +kernel
theorem dL_law_1021 : decode cL_law 1021 = .ok (.invokevirtual 83, 3) := by decide +kernel
theorem dL_law_1024 : decode cL_law 1024 = .ok (.iload 5, 2) := by decide +kernel
theorem dL_law_1026 : decode cL_law 1026 = .ok (.if_icmp .eq 5, 3) := by decide +kernel
theorem dL_law_1029 : decode cL_law 1029 = .ok (.iconst 0, 1) := by decide +kernel
theorem dL_law_1030 : decode cL_law 1030 = .ok (.ireturn, 1) := by decide +kernel
theorem dL_law_1031 : decode cL_law 1031 = .ok (.iload 5, 2) := by decide +kernel
theorem dL_law_1033 : decode cL_law 1033 = .ok (.ifCond .ne 15, 3) := by decide +kernel
theorem dL_law_1036 : decode cL_law 1036 = .ok (.aload_n 3, 1) := by decide +kernel
theorem dL_law_1037 : decode cL_law 1037 = .ok (.iconst 0, 1) := by decide +kernel
theorem dL_law_1038 : decode cL_law 1038 = .ok (.laload, 1) := by decide +kernel
theorem dL_law_1039 : decode cL_law 1039 = .ok (.iload 6, 2) := by decide +kernel
theorem dL_law_1041 : decode cL_law 1041 = .ok (.i2l, 1) := by decide +kernel
theorem dL_law_1042 : decode cL_law 1042 = .ok (.lcmp, 1) := by decide +kernel
theorem dL_law_1043 : decode cL_law 1043 = .ok (.ifCond .eq 5, 3) := by decide +kernel
theorem dL_law_1046 : decode cL_law 1046 = .ok (.iconst 0, 1) := by decide +kernel
theorem dL_law_1047 : decode cL_law 1047 = .ok (.ireturn, 1) := by decide +kernel
theorem dL_law_1048 : decode cL_law 1048 = .ok (.goto 330, 3) := by decide +kernel
theorem dL_law_1051 : decode cL_law 1051 = .ok (.aload_n 1, 1) := by decide +kernel
theorem dL_law_1052 : decode cL_law 1052 = .ok (.aload_n 0, 1) := by decide +kernel
theorem dL_law_1053 : decode cL_law 1053 = .ok (.iload 4, 2) := by decide +kernel
theorem dL_law_1055 : decode cL_law 1055 = .ok (.iconst 1, 1) := by decide +kernel
theorem dL_law_1056 : decode cL_law 1056 = .ok (.iadd, 1) := by decide +kernel
theorem dL_law_1057 : decode cL_law 1057 = .ok (.iaload, 1) := by decide +kernel
theorem dL_law_1058 : decode cL_law 1058 = .ok (.aload_n 0, 1) := by decide +kernel
theorem dL_law_1059 : decode cL_law 1059 = .ok (.iload 4, 2) := by decide +kernel
theorem dL_law_1061 : decode cL_law 1061 = .ok (.iconst 2, 1) := by decide +kernel
theorem dL_law_1062 : decode cL_law 1062 = .ok (.iadd, 1) := by decide +kernel
theorem dL_law_1063 : decode cL_law 1063 = .ok (.iaload, 1) := by decide +kernel
theorem dL_law_1064 : decode cL_law 1064 = .ok (.aload_n 3, 1) := by decide +kernel
theorem dL_law_1065 : decode cL_law 1065 = .ok (.invokestatic 140, 3) := by decide +kernel
theorem dL_law_1068 : decode cL_law 1068 = .ok (.istore 5, 2) := by decide +kernel
theorem dL_law_1070 : decode cL_law 1070 = .ok (.aload_n 2, 1) := by decide +kernel
theorem dL_law_1071 : decode cL_law 1071 = .ok (.aload_n 0, 1) := by decide +kernel
theorem dL_law_1072 : decode cL_law 1072 = .ok (.iload 4, 2) := by decide +kernel
theorem dL_law_1074 : decode cL_law 1074 = .ok (.iconst 1, 1) := by decide +kernel
theorem dL_law_1075 : decode cL_law 1075 = .ok (.iadd, 1) := by decide +kernel
theorem dL_law_1076 : decode cL_law 1076 = .ok (.iaload, 1) := by decide +kernel
theorem dL_law_1077 : decode cL_law 1077 = .ok (.aload_n 0, 1) := by decide +kernel
theorem dL_law_1078 : decode cL_law 1078 = .ok (.iload 4, 2) := by decide +kernel
theorem dL_law_1080 : decode cL_law 1080 = .ok (.iconst 2, 1) := by decide +kernel
theorem dL_law_1081 : decode cL_law 1081 = .ok (.iadd, 1) := by decide +kernel
theorem dL_law_1082 : decode cL_law 1082 = .ok (.iaload, 1) := by decide +kernel
theorem dL_law_1083 : decode cL_law 1083 = .ok (.invokevirtual 142, 3) := by decide +kernel
theorem dL_law_1086 : decode cL_law 1086 = .ok (.istore 6, 2) := by decide +kernel
theorem dL_law_1088 : decode cL_law 1088 = .ok (.aload_n 2, 1) := by decide +kernel
theorem dL_law_1089 : decode cL_law 1089 = .ok (.invokevirtual 83, 3) := by decide +kernel
theorem dL_law_1092 : decode cL_law 1092 = .ok (.iload 5, 2) := by decide +kernel
theorem dL_law_1094 : decode cL_law 1094 = .ok (.if_icmp .eq 5, 3) := by decide +kernel
theorem dL_law_1097 : decode cL_law 1097 = .ok (.iconst 0, 1) := by decide +kernel
theorem dL_law_1098 : decode cL_law 1098 = .ok (.ireturn, 1) := by decide +kernel
theorem dL_law_1099 : decode cL_law 1099 = .ok (.iload 5, 2) := by decide +kernel
theorem dL_law_1101 : decode cL_law 1101 = .ok (.ifCond .ne 15, 3) := by decide +kernel
theorem dL_law_1104 : decode cL_law 1104 = .ok (.aload_n 3, 1) := by decide +kernel
theorem dL_law_1105 : decode cL_law 1105 = .ok (.iconst 0, 1) := by decide +kernel
theorem dL_law_1106 : decode cL_law 1106 = .ok (.laload, 1) := by decide +kernel
theorem dL_law_1107 : decode cL_law 1107 = .ok (.iload 6, 2) := by decide +kernel
theorem dL_law_1109 : decode cL_law 1109 = .ok (.i2l, 1) := by decide +kernel
theorem dL_law_1110 : decode cL_law 1110 = .ok (.lcmp, 1) := by decide +kernel
theorem dL_law_1111 : decode cL_law 1111 = .ok (.ifCond .eq 5, 3) := by decide +kernel
theorem dL_law_1114 : decode cL_law 1114 = .ok (.iconst 0, 1) := by decide +kernel
theorem dL_law_1115 : decode cL_law 1115 = .ok (.ireturn, 1) := by decide +kernel
theorem dL_law_1116 : decode cL_law 1116 = .ok (.goto 262, 3) := by decide +kernel
theorem dL_law_1119 : decode cL_law 1119 = .ok (.aload_n 1, 1) := by decide +kernel
theorem dL_law_1120 : decode cL_law 1120 = .ok (.aload_n 0, 1) := by decide +kernel
theorem dL_law_1121 : decode cL_law 1121 = .ok (.iload 4, 2) := by decide +kernel
theorem dL_law_1123 : decode cL_law 1123 = .ok (.iconst 1, 1) := by decide +kernel
theorem dL_law_1124 : decode cL_law 1124 = .ok (.iadd, 1) := by decide +kernel
theorem dL_law_1125 : decode cL_law 1125 = .ok (.iaload, 1) := by decide +kernel
theorem dL_law_1126 : decode cL_law 1126 = .ok (.aload_n 3, 1) := by decide +kernel
theorem dL_law_1127 : decode cL_law 1127 = .ok (.invokestatic 143, 3) := by decide +kernel
theorem dL_law_1130 : decode cL_law 1130 = .ok (.istore 5, 2) := by decide +kernel
theorem dL_law_1132 : decode cL_law 1132 = .ok (.aload_n 2, 1) := by decide +kernel
theorem dL_law_1133 : decode cL_law 1133 = .ok (.aload_n 0, 1) := by decide +kernel
theorem dL_law_1134 : decode cL_law 1134 = .ok (.iload 4, 2) := by decide +kernel
theorem dL_law_1136 : decode cL_law 1136 = .ok (.iconst 1, 1) := by decide +kernel
theorem dL_law_1137 : decode cL_law 1137 = .ok (.iadd, 1) := by decide +kernel
theorem dL_law_1138 : decode cL_law 1138 = .ok (.iaload, 1) := by decide +kernel
theorem dL_law_1139 : decode cL_law 1139 = .ok (.invokevirtual 145, 3) := by decide +kernel
theorem dL_law_1142 : decode cL_law 1142 = .ok (.istore 6, 2) := by decide +kernel
theorem dL_law_1144 : decode cL_law 1144 = .ok (.aload_n 2, 1) := by decide +kernel
theorem dL_law_1145 : decode cL_law 1145 = .ok (.invokevirtual 83, 3) := by decide +kernel
theorem dL_law_1148 : decode cL_law 1148 = .ok (.iload 5, 2) := by decide +kernel
theorem dL_law_1150 : decode cL_law 1150 = .ok (.if_icmp .eq 5, 3) := by decide +kernel
theorem dL_law_1153 : decode cL_law 1153 = .ok (.iconst 0, 1) := by decide +kernel
theorem dL_law_1154 : decode cL_law 1154 = .ok (.ireturn, 1) := by decide +kernel
theorem dL_law_1155 : decode cL_law 1155 = .ok (.iload 5, 2) := by decide +kernel
theorem dL_law_1157 : decode cL_law 1157 = .ok (.ifCond .ne 15, 3) := by decide +kernel
theorem dL_law_1160 : decode cL_law 1160 = .ok (.aload_n 3, 1) := by decide +kernel
theorem dL_law_1161 : decode cL_law 1161 = .ok (.iconst 0, 1) := by decide +kernel
theorem dL_law_1162 : decode cL_law 1162 = .ok (.laload, 1) := by decide +kernel
theorem dL_law_1163 : decode cL_law 1163 = .ok (.iload 6, 2) := by decide +kernel
theorem dL_law_1165 : decode cL_law 1165 = .ok (.i2l, 1) := by decide +kernel
theorem dL_law_1166 : decode cL_law 1166 = .ok (.lcmp, 1) := by decide +kernel
theorem dL_law_1167 : decode cL_law 1167 = .ok (.ifCond .eq 5, 3) := by decide +kernel
theorem dL_law_1170 : decode cL_law 1170 = .ok (.iconst 0, 1) := by decide +kernel
theorem dL_law_1171 : decode cL_law 1171 = .ok (.ireturn, 1) := by decide +kernel
theorem dL_law_1172 : decode cL_law 1172 = .ok (.goto 206, 3) := by decide +kernel
theorem dL_law_1175 : decode cL_law 1175 = .ok (.aload_n 1, 1) := by decide +kernel
theorem dL_law_1176 : decode cL_law 1176 = .ok (.aload_n 0, 1) := by decide +kernel
theorem dL_law_1177 : decode cL_law 1177 = .ok (.iload 4, 2) := by decide +kernel
theorem dL_law_1179 : decode cL_law 1179 = .ok (.iconst 1, 1) := by decide +kernel
theorem dL_law_1180 : decode cL_law 1180 = .ok (.iadd, 1) := by decide +kernel
theorem dL_law_1181 : decode cL_law 1181 = .ok (.iaload, 1) := by decide +kernel
theorem dL_law_1182 : decode cL_law 1182 = .ok (.aload_n 0, 1) := by decide +kernel
theorem dL_law_1183 : decode cL_law 1183 = .ok (.iload 4, 2) := by decide +kernel
theorem dL_law_1185 : decode cL_law 1185 = .ok (.iconst 2, 1) := by decide +kernel
theorem dL_law_1186 : decode cL_law 1186 = .ok (.iadd, 1) := by decide +kernel
theorem dL_law_1187 : decode cL_law 1187 = .ok (.iaload, 1) := by decide +kernel
theorem dL_law_1188 : decode cL_law 1188 = .ok (.aload_n 0, 1) := by decide +kernel
theorem dL_law_1189 : decode cL_law 1189 = .ok (.iload 4, 2) := by decide +kernel
theorem dL_law_1191 : decode cL_law 1191 = .ok (.iconst 3, 1) := by decide +kernel
theorem dL_law_1192 : decode cL_law 1192 = .ok (.iadd, 1) := by decide +kernel
theorem dL_law_1193 : decode cL_law 1193 = .ok (.iaload, 1) := by decide +kernel
theorem dL_law_1194 : decode cL_law 1194 = .ok (.aload_n 3, 1) := by decide +kernel
theorem dL_law_1195 : decode cL_law 1195 = .ok (.invokestatic 146, 3) := by decide +kernel
theorem dL_law_1198 : decode cL_law 1198 = .ok (.istore 5, 2) := by decide +kernel
theorem dL_law_1200 : decode cL_law 1200 = .ok (.aload_n 2, 1) := by decide +kernel
theorem dL_law_1201 : decode cL_law 1201 = .ok (.aload_n 0, 1) := by decide +kernel
theorem dL_law_1202 : decode cL_law 1202 = .ok (.iload 4, 2) := by decide +kernel
theorem dL_law_1204 : decode cL_law 1204 = .ok (.iconst 1, 1) := by decide +kernel
theorem dL_law_1205 : decode cL_law 1205 = .ok (.iadd, 1) := by decide +kernel
theorem dL_law_1206 : decode cL_law 1206 = .ok (.iaload, 1) := by decide +kernel
theorem dL_law_1207 : decode cL_law 1207 = .ok (.aload_n 0, 1) := by decide +kernel
theorem dL_law_1208 : decode cL_law 1208 = .ok (.iload 4, 2) := by decide +kernel
theorem dL_law_1210 : decode cL_law 1210 = .ok (.iconst 2, 1) := by decide +kernel
theorem dL_law_1211 : decode cL_law 1211 = .ok (.iadd, 1) := by decide +kernel
theorem dL_law_1212 : decode cL_law 1212 = .ok (.iaload, 1) := by decide +kernel
theorem dL_law_1213 : decode cL_law 1213 = .ok (.aload_n 0, 1) := by decide +kernel
theorem dL_law_1214 : decode cL_law 1214 = .ok (.iload 4, 2) := by decide +kernel
theorem dL_law_1216 : decode cL_law 1216 = .ok (.iconst 3, 1) := by decide +kernel
theorem dL_law_1217 : decode cL_law 1217 = .ok (.iadd, 1) := by decide +kernel
theorem dL_law_1218 : decode cL_law 1218 = .ok (.iaload, 1) := by decide +kernel
theorem dL_law_1219 : decode cL_law 1219 = .ok (.invokevirtual 148, 3) := by decide +kernel
theorem dL_law_1222 : decode cL_law 1222 = .ok (.istore 6, 2) := by decide +kernel
theorem dL_law_1224 : decode cL_law 1224 = .ok (.aload_n 2, 1) := by decide +kernel
theorem dL_law_1225 : decode cL_law 1225 = .ok (.invokevirtual 83, 3) := by decide +kernel
theorem dL_law_1228 : decode cL_law 1228 = .ok (.iload 5, 2) := by decide +kernel
theorem dL_law_1230 : decode cL_law 1230 = .ok (.if_icmp .eq 5, 3) := by decide +kernel
theorem dL_law_1233 : decode cL_law 1233 = .ok (.iconst 0, 1) := by decide +kernel
theorem dL_law_1234 : decode cL_law 1234 = .ok (.ireturn, 1) := by decide +kernel
theorem dL_law_1235 : decode cL_law 1235 = .ok (.iload 5, 2) := by decide +kernel
theorem dL_law_1237 : decode cL_law 1237 = .ok (.ifCond .ne 15, 3) := by decide +kernel
theorem dL_law_1240 : decode cL_law 1240 = .ok (.aload_n 3, 1) := by decide +kernel
theorem dL_law_1241 : decode cL_law 1241 = .ok (.iconst 0, 1) := by decide +kernel
theorem dL_law_1242 : decode cL_law 1242 = .ok (.laload, 1) := by decide +kernel
theorem dL_law_1243 : decode cL_law 1243 = .ok (.iload 6, 2) := by decide +kernel
theorem dL_law_1245 : decode cL_law 1245 = .ok (.i2l, 1) := by decide +kernel
theorem dL_law_1246 : decode cL_law 1246 = .ok (.lcmp, 1) := by decide +kernel
theorem dL_law_1247 : decode cL_law 1247 = .ok (.ifCond .eq 5, 3) := by decide +kernel
theorem dL_law_1250 : decode cL_law 1250 = .ok (.iconst 0, 1) := by decide +kernel
theorem dL_law_1251 : decode cL_law 1251 = .ok (.ireturn, 1) := by decide +kernel
theorem dL_law_1252 : decode cL_law 1252 = .ok (.goto 126, 3) := by decide +kernel
theorem dL_law_1255 : decode cL_law 1255 = .ok (.aload_n 1, 1) := by decide +kernel
theorem dL_law_1256 : decode cL_law 1256 = .ok (.aload_n 0, 1) := by decide +kernel
theorem dL_law_1257 : decode cL_law 1257 = .ok (.iload 4, 2) := by decide +kernel
theorem dL_law_1259 : decode cL_law 1259 = .ok (.iconst 1, 1) := by decide +kernel
theorem dL_law_1260 : decode cL_law 1260 = .ok (.iadd, 1) := by decide +kernel
theorem dL_law_1261 : decode cL_law 1261 = .ok (.iaload, 1) := by decide +kernel
theorem dL_law_1262 : decode cL_law 1262 = .ok (.aload_n 0, 1) := by decide +kernel
theorem dL_law_1263 : decode cL_law 1263 = .ok (.iload 4, 2) := by decide +kernel
theorem dL_law_1265 : decode cL_law 1265 = .ok (.iconst 2, 1) := by decide +kernel
theorem dL_law_1266 : decode cL_law 1266 = .ok (.iadd, 1) := by decide +kernel
theorem dL_law_1267 : decode cL_law 1267 = .ok (.iaload, 1) := by decide +kernel
theorem dL_law_1268 : decode cL_law 1268 = .ok (.aload_n 3, 1) := by decide +kernel
theorem dL_law_1269 : decode cL_law 1269 = .ok (.invokestatic 149, 3) := by decide +kernel
theorem dL_law_1272 : decode cL_law 1272 = .ok (.istore 5, 2) := by decide +kernel
theorem dL_law_1274 : decode cL_law 1274 = .ok (.aload_n 2, 1) := by decide +kernel
theorem dL_law_1275 : decode cL_law 1275 = .ok (.aload_n 0, 1) := by decide +kernel
theorem dL_law_1276 : decode cL_law 1276 = .ok (.iload 4, 2) := by decide +kernel
theorem dL_law_1278 : decode cL_law 1278 = .ok (.iconst 1, 1) := by decide +kernel
theorem dL_law_1279 : decode cL_law 1279 = .ok (.iadd, 1) := by decide +kernel
theorem dL_law_1280 : decode cL_law 1280 = .ok (.iaload, 1) := by decide +kernel
theorem dL_law_1281 : decode cL_law 1281 = .ok (.aload_n 0, 1) := by decide +kernel
theorem dL_law_1282 : decode cL_law 1282 = .ok (.iload 4, 2) := by decide +kernel
theorem dL_law_1284 : decode cL_law 1284 = .ok (.iconst 2, 1) := by decide +kernel
theorem dL_law_1285 : decode cL_law 1285 = .ok (.iadd, 1) := by decide +kernel
theorem dL_law_1286 : decode cL_law 1286 = .ok (.iaload, 1) := by decide +kernel
theorem dL_law_1287 : decode cL_law 1287 = .ok (.invokevirtual 151, 3) := by decide +kernel
theorem dL_law_1290 : decode cL_law 1290 = .ok (.istore 6, 2) := by decide +kernel
theorem dL_law_1292 : decode cL_law 1292 = .ok (.aload_n 2, 1) := by decide +kernel
theorem dL_law_1293 : decode cL_law 1293 = .ok (.invokevirtual 83, 3) := by decide +kernel
theorem dL_law_1296 : decode cL_law 1296 = .ok (.iload 5, 2) := by decide +kernel
theorem dL_law_1298 : decode cL_law 1298 = .ok (.if_icmp .eq 5, 3) := by decide +kernel
theorem dL_law_1301 : decode cL_law 1301 = .ok (.iconst 0, 1) := by decide +kernel
theorem dL_law_1302 : decode cL_law 1302 = .ok (.ireturn, 1) := by decide +kernel
theorem dL_law_1303 : decode cL_law 1303 = .ok (.iload 5, 2) := by decide +kernel
theorem dL_law_1305 : decode cL_law 1305 = .ok (.ifCond .ne 15, 3) := by decide +kernel
theorem dL_law_1308 : decode cL_law 1308 = .ok (.aload_n 3, 1) := by decide +kernel
theorem dL_law_1309 : decode cL_law 1309 = .ok (.iconst 0, 1) := by decide +kernel
theorem dL_law_1310 : decode cL_law 1310 = .ok (.laload, 1) := by decide +kernel
theorem dL_law_1311 : decode cL_law 1311 = .ok (.iload 6, 2) := by decide +kernel
theorem dL_law_1313 : decode cL_law 1313 = .ok (.i2l, 1) := by decide +kernel
theorem dL_law_1314 : decode cL_law 1314 = .ok (.lcmp, 1) := by decide +kernel
theorem dL_law_1315 : decode cL_law 1315 = .ok (.ifCond .eq 5, 3) := by decide +kernel
theorem dL_law_1318 : decode cL_law 1318 = .ok (.iconst 0, 1) := by decide +kernel
theorem dL_law_1319 : decode cL_law 1319 = .ok (.ireturn, 1) := by decide +kernel
theorem dL_law_1320 : decode cL_law 1320 = .ok (.goto 58, 3) := by decide +kernel
theorem dL_law_1323 : decode cL_law 1323 = .ok (.aload_n 1, 1) := by decide +kernel
theorem dL_law_1324 : decode cL_law 1324 = .ok (.invokevirtual 152, 3) := by decide +kernel
theorem dL_law_1327 : decode cL_law 1327 = .ok (.dstore 5, 2) := by decide +kernel
theorem dL_law_1329 : decode cL_law 1329 = .ok (.aload_n 2, 1) := by decide +kernel
theorem dL_law_1330 : decode cL_law 1330 = .ok (.invokevirtual 156, 3) := by decide +kernel
theorem dL_law_1333 : decode cL_law 1333 = .ok (.dstore 7, 2) := by decide +kernel
theorem dL_law_1335 : decode cL_law 1335 = .ok (.dload 5, 2) := by decide +kernel
theorem dL_law_1337 : decode cL_law 1337 = .ok (.dload 7, 2) := by decide +kernel
theorem dL_law_1339 : decode cL_law 1339 = .ok (.dcmp .l, 1) := by decide +kernel
theorem dL_law_1340 : decode cL_law 1340 = .ok (.ifCond .eq 21, 3) := by decide +kernel
theorem dL_law_1343 : decode cL_law 1343 = .ok (.dload 5, 2) := by decide +kernel
theorem dL_law_1345 : decode cL_law 1345 = .ok (.dload 5, 2) := by decide +kernel
theorem dL_law_1347 : decode cL_law 1347 = .ok (.dcmp .l, 1) := by decide +kernel
theorem dL_law_1348 : decode cL_law 1348 = .ok (.ifCond .eq 11, 3) := by decide +kernel
theorem dL_law_1351 : decode cL_law 1351 = .ok (.dload 7, 2) := by decide +kernel
theorem dL_law_1353 : decode cL_law 1353 = .ok (.dload 7, 2) := by decide +kernel
theorem dL_law_1355 : decode cL_law 1355 = .ok (.dcmp .l, 1) := by decide +kernel
theorem dL_law_1356 : decode cL_law 1356 = .ok (.ifCond .ne 5, 3) := by decide +kernel
theorem dL_law_1359 : decode cL_law 1359 = .ok (.iconst 0, 1) := by decide +kernel
theorem dL_law_1360 : decode cL_law 1360 = .ok (.ireturn, 1) := by decide +kernel
theorem dL_law_1361 : decode cL_law 1361 = .ok (.goto 17, 3) := by decide +kernel
theorem dL_law_1364 : decode cL_law 1364 = .ok (.aload_n 1, 1) := by decide +kernel
theorem dL_law_1365 : decode cL_law 1365 = .ok (.invokevirtual 157, 3) := by decide +kernel
theorem dL_law_1368 : decode cL_law 1368 = .ok (.aload_n 2, 1) := by decide +kernel
theorem dL_law_1369 : decode cL_law 1369 = .ok (.invokevirtual 161, 3) := by decide +kernel
theorem dL_law_1372 : decode cL_law 1372 = .ok (.lcmp, 1) := by decide +kernel
theorem dL_law_1373 : decode cL_law 1373 = .ok (.ifCond .eq 5, 3) := by decide +kernel
theorem dL_law_1376 : decode cL_law 1376 = .ok (.iconst 0, 1) := by decide +kernel
theorem dL_law_1377 : decode cL_law 1377 = .ok (.ireturn, 1) := by decide +kernel
theorem dL_law_1378 : decode cL_law 1378 = .ok (.iinc 4 4, 3) := by decide +kernel
theorem dL_law_1381 : decode cL_law 1381 = .ok (.goto (-1358), 3) := by decide +kernel
theorem dL_law_1384 : decode cL_law 1384 = .ok (.iconst 1, 1) := by decide +kernel
theorem dL_law_1385 : decode cL_law 1385 = .ok (.ireturn, 1) := by decide +kernel
end
section
/-! THE THIN LAYER. A cell has a number (id): 0 the script, 1, 2 .. what the run makes, in the order of making. A heap is a function from ids to contents. E speaks of one method's frame at a depth d (frames left: d, words of locals left: 44 * d), with mc cells of ms slots left to make. -/
abbrev ez_G : Type := Launch × (Nat → ClassId) × (Nat → Nat → Nat) × (Nat → ClassId) × Nat × Nat
abbrev ez_M : Type := MethodName × ByteArray × Nat × Option FieldType × List (Nat × Nat × Nat × Nat)
abbrev ez_H : Type := Nat → Option va_E
abbrev ez_Q : Type := (Option Value ⊕ String) → ez_H → Nat → Prop
def ez_l (G : ez_G) : Launch := G.1
def ez_D (G : ez_G) : va_G := (G.2.1, G.2.2.1)
def ez_ca (G : ez_G) : Nat → ClassId := G.2.2.2.1
def ez_b (G : ez_G) : Nat := G.2.2.2.2.1
def ez_o (G : ez_G) : Nat := G.2.2.2.2.2
def ez_ad (G : ez_G) (k : Nat) : Nat := match k with
  | 0 => ez_b G
  | j + 1 => ez_o G + j
def ez_v (G : ez_G) (v : Value) : Value := match v with
  | .ref a => .ref (ez_ad G a)
  | x => x
def ez_e (G : ez_G) (e : va_E) : va_E := match e with
  | .inl (c, n, .inr (.inr (.inr (.inr f)))) => .inl (ez_ca G c, n, .inr (.inr (.inr (.inr (fun j => (f j).map (ez_ad G))))))
  | .inl (c, a) => .inl (ez_ca G c, a)
  | .inr (ci, fs) => .inr (ci, fs.map (ez_v G))
def ez_A (G : ez_G) : Nat → Prop := fun q => ez_o G ≤ q
def ez_tys (G : ez_G) : List (ClassId × FieldType) := [(ez_ca G 0, .int), (ez_ca G 1, .char), (ez_ca G 2, .long), (ez_ca G 3, .object "FutureWishes$State")]
def ez_up (h : ez_H) (a : Nat) (e : va_E) : ez_H := fun j => if j = a then some e else h j
def ez_R (G : ez_G) (h : ez_H) (n : Nat) (H : Heap) : Prop := H.size + 1 = ez_o G + n ∧ 0 < n ∧ ez_b G < ez_o G ∧ ∀ i e, h i = some e → i < n ∧ va_at (ez_D G) vwCl (ez_ad G i, ez_e G e) H
def ez_strs : List (Nat × String) := [(284, "there is no such property"), (278, "there is no such world"), (280, "a wish is 0 to 3"), (282, "a letter is 0 to 3, or NONE"), (57, "letters are a mask from 0 to 15"), (68, "there are 10 worlds"), (92, "a letter is 0 to 3"), (113, "a character code is 33 to 126"), (118, "the buffer has 60 characters"), (134, "the buffer is not a complete wish"), (147, "there is no such wish at present, or it has 40 signs"), (161, "there is no saved state"), (186, "the wish has no such sign"), (193, "a place is not below 0")]
abbrev ez_IA : String := "java/lang/IllegalArgumentException"
abbrev ez_IS : String := "java/lang/IllegalStateException"
abbrev ez_IO : String := "java/lang/IndexOutOfBoundsException"
def ez_ncs : List (String × String) := [(ez_IS, ez_IA), (ez_IA, ez_IO), (ez_IS, ez_IO)]
def ez_isn (w : Cond) : Bool := match w with
  | .castable _ _ => true
  | .declares _ => true
  | .methodLinkNest _ _ _ _ => true
  | _ => false
def ez_K (G : ez_G) (U : State) : Prop := (ez_l G).stackTraces = false ∧ va_K (ez_D G) vwCl (ez_tys G) U ∧ vx_Zq Bundle.tN "UNASSIGNED_STACK" Bundle.steD (ez_A G) U U.heap ∧ vx_Zq Bundle.tN "SUPPRESSED_SENTINEL" Bundle.listD (ez_A G) U U.heap ∧ (∀ q ∈ ez_strs, ∃ sa, vk_R RX7 q.1 q.2 sa U) ∧ (∀ q ∈ ez_ncs, va_Nc q.1 q.2 U) ∧ ∀ w ∈ lw_tbl, (goodWord w || ez_isn w) = true → va_Nw w U
theorem ez_isn_warm {s U : State} (hW : s.WarmedH U.vm) {w : Cond} (h : ez_isn w = true) (hz : va_Nw w s) : va_Nw w U := by
  cases w <;> first | exact va_Nw.warmC hW hz | exact va_Nw.warmD hW hz | exact va_Nw.warmM hW hz | exact absurd h (by simp [ez_isn])
theorem ez_K.warm {G : ez_G} {s U : State} (hW : s.WarmedH U.vm) (hh : ∀ a : Nat, a < s.heap.size → ¬ ez_A G a → U.heap[a]? = s.heap[a]?) (h : ez_K G s) : ez_K G U := by
  obtain ⟨h0, h1, h2, h3, h4, h5, h6⟩ := h
  refine ⟨h0, va_K.moved hW.alike h1, vx_Zq.moved hW.alike (h2.kept hh), vx_Zq.moved hW.alike (h3.kept hh), fun q hq => ?_, fun q hq => va_Nc.moved hW.alike (h5 q hq), fun w hw hg => ?_⟩
  · obtain ⟨sa, h⟩ := h4 q hq
    exact ⟨sa, vk_R.warm hW h⟩
  · rcases Bool.or_eq_true_iff.mp hg with g | g
    · exact word_at hW (good_of_word g) (h6 w hw hg)
    · exact ez_isn_warm hW g (h6 w hw hg)
/-- a word of the tables that stays true -/
def ez_T (w : Cond) : Prop := w ∈ lw_tbl ∧ goodWord w = true
theorem ez_K.w {G : ez_G} {s : State} (h : ez_K G s) {w : Cond} (hw : ez_T w) (args : Array Value) : w.before args s = true := word_at (State.WarmedH.refl s) (good_of_word hw.2) (h.2.2.2.2.2.2 w hw.1 (by rw [hw.2]; rfl))
theorem ez_K.n {G : ez_G} {s : State} (h : ez_K G s) {w : Cond} (hw : w ∈ lw_tbl) (hg : ez_isn w = true) : va_Nw w s := h.2.2.2.2.2.2 w hw (by rw [hg]; simp)
theorem ez_T.at {w : Cond} (k : Nat) (h : lw_tbl[k]? = some w) (hg : goodWord w = true) : ez_T w := ⟨List.mem_of_getElem? h, hg⟩
-- heaps
theorem ez_ad_inj {G : ez_G} (hb : ez_b G < ez_o G) {i j : Nat} (h : ez_ad G i = ez_ad G j) : i = j := by
  cases i <;> cases j <;> simp only [ez_ad] at h <;> omega
theorem ez_ad_A {G : ez_G} {i : Nat} (h : 0 < i) : ez_A G (ez_ad G i) := by
  cases i with
  | zero => exact absurd h (Nat.lt_irrefl 0)
  | succ j => exact Nat.le_add_right _ _
theorem ez_R.set {G : ez_G} {h : ez_H} {n i : Nat} {H H1 : Heap} {e0 e : va_E} (hR : ez_R G h n H) (hi : h i = some e0) (he : va_at (ez_D G) vwCl (ez_ad G i, ez_e G e) H1) (hz : H1.size = H.size) (oq : ∀ q : Nat, q ≠ ez_ad G i → H1[q]? = H[q]?) : ez_R G (ez_up h i e) n H1 := by
  obtain ⟨h1, h2, h3, h4⟩ := hR
  refine ⟨by rw [hz]; exact h1, h2, h3, fun j x hx => ?_⟩
  by_cases hj : j = i
  · subst hj
    rw [ez_up, if_pos rfl] at hx
    cases hx
    exact ⟨(h4 j e0 hi).1, he⟩
  · rw [ez_up, if_neg hj] at hx
    exact ⟨(h4 j x hx).1, (h4 j x hx).2.kept (oq _ (fun q => hj (ez_ad_inj h3 q)))⟩
theorem ez_R.push {G : ez_G} {h : ez_H} {n : Nat} {H H1 : Heap} {e : va_E} (hR : ez_R G h n H) (he : va_at (ez_D G) vwCl (ez_ad G n, ez_e G e) H1) (hz : H1.size = H.size + 1) (oq : ∀ q : Nat, q < H.size → H1[q]? = H[q]?) : ez_R G (ez_up h n e) (n + 1) H1 := by
  obtain ⟨h1, h2, h3, h4⟩ := hR
  refine ⟨by rw [hz]; omega, by omega, h3, fun j x hx => ?_⟩
  by_cases hj : j = n
  · subst hj
    rw [ez_up, if_pos rfl] at hx
    cases hx
    exact ⟨by omega, he⟩
  · rw [ez_up, if_neg hj] at hx
    have q := (h4 j x hx)
    exact ⟨by omega, q.2.kept (oq _ q.2.lt)⟩
theorem ez_R.size {G : ez_G} {h : ez_H} {n : Nat} {H : Heap} (hR : ez_R G h n H) : H.size = ez_ad G n := by
  obtain ⟨h1, h2, -⟩ := hR
  cases n with
  | zero => omega
  | succ k => show H.size = ez_o G + k; omega
theorem ez_R.kept {G : ez_G} {h : ez_H} {n n' : Nat} {H H1 : Heap} (hR : ez_R G h n H) (hz : H1.size + 1 = ez_o G + n') (hn : n ≤ n') (oq : ∀ q : Nat, q < H.size → H1[q]? = H[q]?) : ez_R G h n' H1 := by
  obtain ⟨h1, h2, h3, h4⟩ := hR
  exact ⟨hz, by omega, h3, fun j x hx => ⟨by have := (h4 j x hx).1; omega, (h4 j x hx).2.kept (oq _ (h4 j x hx).2.lt)⟩⟩
/-- fewer cells said -/
theorem ez_R.sub {G : ez_G} {h h' : ez_H} {n : Nat} {H : Heap} (hR : ez_R G h n H) (hs : ∀ i e, h' i = some e → h i = some e) : ez_R G h' n H := ⟨hR.1, hR.2.1, hR.2.2.1, fun i e he => hR.2.2.2 i e (hs i e he)⟩
-- locals: a list of what is known at each place
def ez_L (G : ez_G) (la : Array Slot) (nL : Nat) (ls : List (Option Value)) : Prop := la.size = nL ∧ lv_wf la ∧ ∀ (j : Nat) (x : Value), ls[j]? = some (some x) → la[j]? = some (.val (ez_v G x))
def ez_c1 (x : Option Value) : Bool := match x with
  | some v => !(v.category == 2)
  | none => true
theorem ez_v_cat (G : ez_G) (v : Value) : (ez_v G v).category = v.category := by cases v <;> rfl
theorem ez_st_cat (G : ez_G) (st : List Value) : ((st.map (ez_v G)).map fun v => v.category).sum = (st.map fun v => v.category).sum := by
  rw [List.map_map]
  congr 1
  exact List.map_congr_left (fun v _ => ez_v_cat G v)
def ez_prs (G : ez_G) : Nat → List (Option Value) → List (Nat × Value)
  | _, [] => []
  | k, none :: r => ez_prs G (k + 1) r
  | k, some v :: r => (k, ez_v G v) :: ez_prs G (k + 1) r
theorem ez_prs_mem {G : ez_G} {q : Nat × Value} : ∀ {k : Nat} {ls : List (Option Value)}, q ∈ ez_prs G k ls → ∃ (j : Nat) (x : Value), ls[j]? = some (some x) ∧ q = (k + j, ez_v G x) := by
  intro k ls
  induction ls generalizing k with
  | nil => intro h; cases h
  | cons y r ih =>
    intro h
    cases y with
    | none =>
      obtain ⟨j, x, h1, h2⟩ := ih (show q ∈ ez_prs G (k + 1) r from h)
      exact ⟨j + 1, x, by simpa using h1, by rw [h2]; congr 1; omega⟩
    | some v =>
      rcases List.mem_cons.mp (show q ∈ (k, ez_v G v) :: ez_prs G (k + 1) r from h) with h | h
      · exact ⟨0, v, rfl, by rw [h]; rfl⟩
      · obtain ⟨j, x, h1, h2⟩ := ih h
        exact ⟨j + 1, x, by simpa using h1, by rw [h2]; congr 1; omega⟩
theorem ez_prs_of {G : ez_G} {x : Value} : ∀ {k : Nat} {ls : List (Option Value)} {j : Nat}, ls[j]? = some (some x) → (k + j, ez_v G x) ∈ ez_prs G k ls := by
  intro k ls
  induction ls generalizing k with
  | nil => intro j h; simp at h
  | cons y r ih =>
    intro j h
    cases j with
    | zero =>
      have hy : y = some x := by simpa using h
      subst hy
      exact List.mem_cons_self
    | succ i =>
      have h2 := ih (k := k + 1) (j := i) (by simpa using h)
      rw [show k + (i + 1) = k + 1 + i by omega]
      cases y with
      | none => exact h2
      | some v => exact List.mem_cons_of_mem _ h2
theorem ez_L.has {G : ez_G} {la : Array Slot} {nL : Nat} {ls : List (Option Value)} (h : ez_L G la nL ls) : lv_has la nL (ez_prs G 0 ls) := by
  refine ⟨h.1, h.2.1, fun q hq => ?_⟩
  obtain ⟨j, x, h1, h2⟩ := ez_prs_mem hq
  subst h2
  rw [Nat.zero_add]
  exact h.2.2 j x h1
theorem ez_L.of {G : ez_G} {la : Array Slot} {nL : Nat} {ls : List (Option Value)} {l : List (Nat × Value)} (h : lv_has la nL l) (hs : ∀ (j : Nat) (x : Value), ls[j]? = some (some x) → (j, ez_v G x) ∈ l) : ez_L G la nL ls := ⟨h.1, h.2.1, fun j x hx => h.2.2 (j, ez_v G x) (hs j x hx)⟩
/-- fewer known -/
theorem ez_L.sub {G : ez_G} {la : Array Slot} {nL : Nat} {ls ls' : List (Option Value)} (h : ez_L G la nL ls) (hs : ∀ (j : Nat) (x : Value), ls'[j]? = some (some x) → ls[j]? = some (some x)) : ez_L G la nL ls' := ⟨h.1, h.2.1, fun j x hx => h.2.2 j x (hs j x hx)⟩
theorem ez_L.st1 {G : ez_G} {la : Array Slot} {nL i : Nat} {ls ls' : List (Option Value)} {v : Value} (h : lv_has la nL ((i, ez_v G v) :: (ez_prs G 0 ls).filter (fun q => !(q.1 == i) && !(q.1 + 1 == i && q.2.category == 2)))) (hs : ls.set i (some v) = ls') (hc : i = 0 ∨ ∃ x, ls[i - 1]? = some x ∧ ez_c1 x = true) : ez_L G la nL ls' := by
  subst hs
  refine ez_L.of h (fun j x hx => ?_)
  by_cases hj : j = i
  · subst hj
    have hl : j < ls.length := by
      have := (List.getElem?_eq_some_iff.mp hx).1
      simpa using this
    rw [List.getElem?_set_self hl] at hx
    cases hx
    exact List.mem_cons_self
  · rw [List.getElem?_set_ne (Ne.symm hj)] at hx
    refine List.mem_cons_of_mem _ (List.mem_filter.mpr ⟨by have := ez_prs_of (G := G) (k := 0) hx; rwa [Nat.zero_add] at this, ?_⟩)
    have h1 : (j == i) = false := by simpa using hj
    simp only [h1, Bool.not_false, Bool.true_and, Bool.not_eq_true', Bool.and_eq_false_iff]
    by_cases h2 : j + 1 = i
    · right
      rcases hc with hc | ⟨y, hy, hc⟩
      · omega
      · rw [show i - 1 = j by omega, hx] at hy
        cases hy
        simp only [ez_c1, Bool.not_eq_true'] at hc
        rw [ez_v_cat]
        exact hc
    · left
      simpa using h2
theorem ez_L.st2 {G : ez_G} {la : Array Slot} {nL i : Nat} {ls ls' : List (Option Value)} {v : Value} (h : lv_has la nL ((i, ez_v G v) :: (ez_prs G 0 ls).filter (fun q => !(q.1 == i) && (!(q.1 == i + 1) && !(q.1 + 1 == i && q.2.category == 2))))) (hs : (ls.set i (some v)).set (i + 1) none = ls') (hc : i = 0 ∨ ∃ x, ls[i - 1]? = some x ∧ ez_c1 x = true) : ez_L G la nL ls' := by
  subst hs
  refine ez_L.of h (fun j x hx => ?_)
  by_cases hj2 : j = i + 1
  · subst hj2
    rw [List.getElem?_set] at hx
    simp only [if_pos] at hx
    split at hx <;> cases hx
  · rw [List.getElem?_set_ne (Ne.symm hj2)] at hx
    by_cases hj : j = i
    · subst hj
      have hl : j < ls.length := by
        have := (List.getElem?_eq_some_iff.mp hx).1
        simpa using this
      rw [List.getElem?_set_self hl] at hx
      cases hx
      exact List.mem_cons_self
    · rw [List.getElem?_set_ne (Ne.symm hj)] at hx
      refine List.mem_cons_of_mem _ (List.mem_filter.mpr ⟨by have := ez_prs_of (G := G) (k := 0) hx; rwa [Nat.zero_add] at this, ?_⟩)
      have h1 : (j == i) = false := by simpa using hj
      have h3 : (j == i + 1) = false := by simpa using hj2
      simp only [h1, h3, Bool.not_false, Bool.true_and, Bool.not_eq_true', Bool.and_eq_false_iff]
      by_cases h2 : j + 1 = i
      · right
        rcases hc with hc | ⟨y, hy, hc⟩
        · omega
        · rw [show i - 1 = j by omega, hx] at hy
          cases hy
          simp only [ez_c1, Bool.not_eq_true'] at hc
          rw [ez_v_cat]
          exact hc
      · left
        simpa using h2
-- contracts and the judgement
def ez_Qc (G : ez_G) (Q : ez_Q) : Array Value → State → Outcome → State → Prop := fun _ st oc t => (∃ (r : Option Value) (h : ez_H) (n : Nat), oc = .returned (r.map (ez_v G)) ∧ Q (.inl r) h n ∧ ez_R G h n t.heap) ∧ va_F (ez_A G) st t
def ez_Xc (G : ez_G) (Q : ez_Q) : String → State → State → Prop := fun E st t => (∃ (h : ez_H) (n : Nat), Q (.inr E) h n ∧ ez_R G h n t.heap) ∧ va_F (ez_A G) st t
def ez_w (M : ez_M) : Cond := match M.2.2.2.2 with
  | [] => .code M.1 M.2.1 M.2.2.1 M.2.2.2.1
  | hh => .codeWith M.1 M.2.1 M.2.2.1 M.2.2.2.1 hh
def ez_rm (d mc ms : Nat) : Room := { frames := d, cells := mc, slots := ms, locals := 44 * d }
def ez_Pc (G : ez_G) (as : List Value) (h : ez_H) (n : Nat) : Array Value → State → Prop := va_Pc (as.map (ez_v G)) (fun U => ez_R G h n U.heap ∧ ez_K G U)
/-- THE CONTRACT: method M, called at depth d on the arguments as over the heap h of n cells, makes at most mc cells of ms slots and ends in Q -/
def Con (G : ez_G) (M : ez_M) (d : Nat) (as : List Value) (h : ez_H) (n mc ms : Nat) (Q : ez_Q) : Prop := vx_Met (ez_l G) M.1 [ez_w M] (ez_rm d mc ms) (ez_Pc G as h n) (ez_Qc G Q) (ez_Xc G Q) mc ms (ez_A G)
def ez_X (G : ez_G) (M : ez_M) (d : Nat) (p : Program) (R : Room) (s : State) (m : MethodId) (meth : Method) (c : Code) : Prop :=
  p.tables.exec = Jvm.exec ∧ c.code = M.2.1 ∧ meth.sig.returnType = M.2.2.2.1 ∧ s.vm.findClass M.1.cls = some m.cls ∧ meth.locks = false ∧ c.maxLocals = M.2.2.1 ∧ meth.name = M.1.name ∧ c.exceptionTable.toList = tableOf M.2.2.2.2 ∧ ez_K G s ∧ d ≤ R.frames ∧ 44 * d ≤ R.locals ∧ ez_o G ≤ s.heap.size
def E (G : ez_G) (M : ez_M) (d : Nat) (Q : ez_Q) (h : ez_H) (n mc ms pc : Nat) (ls : List (Option Value)) (st : List Value) : Prop :=
  ∀ (p : Program) (e : Env) (R : Room) (s : State) (m : MethodId) (args : Array Value) (below : List Frame) (meth : Method) (c : Code) (H : Heap) (locs : List Loc) (cells slots mt mS : Nat) (la : Array Slot),
    ez_X G M d p R s m meth c → ez_R G h n H → va_S (ez_A G) s.heap H locs → ez_L G la M.2.2.1 ls → (cells + mc ≤ mt ∧ mt ≤ R.cells) → (slots + ms ≤ mS ∧ mS ≤ R.slots) →
    W p (ez_l G) e R s m args below meth c H locs cells slots (vx_MQ below (ez_Qc G Q) (ez_Xc G Q) args s mt mS (ez_A G)) (F0 m pc la (st.map (ez_v G)))

theorem ez_iconst {G : ez_G} {M : ez_M} {d : Nat} {Q : ez_Q} {h : ez_H} {n mc ms pc q : Nat} {ls : List (Option Value)} {st : List Value} {z : Int} {v : Int32} (hd : decode M.2.1 pc = .ok (.iconst z, 1)) (hv : Int32.ofInt z = v) (hq : pc + 1 = q) (k : E G M d Q h n mc ms q ls (.int v :: st)) : E G M d Q h n mc ms pc ls st := by
  subst hq
  intro p e R s m args below meth c H locs cells slots mt mS la X hR hS hL hc hs
  exact lv_iconst X.1 X.2.1 hd hv (k p e R s m args below meth c H locs cells slots mt mS la X hR hS hL hc hs)
theorem ez_bipush {G : ez_G} {M : ez_M} {d : Nat} {Q : ez_Q} {h : ez_H} {n mc ms pc q : Nat} {ls : List (Option Value)} {st : List Value} {z : Int} {v : Int32} (hd : decode M.2.1 pc = .ok (.bipush z, 2)) (hv : (Int8.ofInt z).toInt32 = v) (hq : pc + 2 = q) (k : E G M d Q h n mc ms q ls (.int v :: st)) : E G M d Q h n mc ms pc ls st := by
  subst hq
  intro p e R s m args below meth c H locs cells slots mt mS la X hR hS hL hc hs
  exact lv_bipush X.1 X.2.1 hd hv (k p e R s m args below meth c H locs cells slots mt mS la X hR hS hL hc hs)
theorem ez_sipush {G : ez_G} {M : ez_M} {d : Nat} {Q : ez_Q} {h : ez_H} {n mc ms pc q : Nat} {ls : List (Option Value)} {st : List Value} {z : Int} {v : Int32} (hd : decode M.2.1 pc = .ok (.sipush z, 3)) (hv : (Int16.ofInt z).toInt32 = v) (hq : pc + 3 = q) (k : E G M d Q h n mc ms q ls (.int v :: st)) : E G M d Q h n mc ms pc ls st := by
  subst hq
  intro p e R s m args below meth c H locs cells slots mt mS la X hR hS hL hc hs
  exact lv_sipush X.1 X.2.1 hd hv (k p e R s m args below meth c H locs cells slots mt mS la X hR hS hL hc hs)
theorem ez_lconst {G : ez_G} {M : ez_M} {d : Nat} {Q : ez_Q} {h : ez_H} {n mc ms pc q : Nat} {ls : List (Option Value)} {st : List Value} {z : Fin 2} {v : Int64} (hd : decode M.2.1 pc = .ok (.lconst z, 1)) (hv : Int64.ofNat (z : Nat) = v) (hq : pc + 1 = q) (k : E G M d Q h n mc ms q ls (.long v :: st)) : E G M d Q h n mc ms pc ls st := by
  subst hq
  intro p e R s m args below meth c H locs cells slots mt mS la X hR hS hL hc hs
  exact lv_lconst X.1 X.2.1 hd hv (k p e R s m args below meth c H locs cells slots mt mS la X hR hS hL hc hs)
theorem ez_dconst0 {G : ez_G} {M : ez_M} {d : Nat} {Q : ez_Q} {h : ez_H} {n mc ms pc q : Nat} {ls : List (Option Value)} {st : List Value}  (hd : decode M.2.1 pc = .ok (.dconst 0, 1))  (hq : pc + 1 = q) (k : E G M d Q h n mc ms q ls (.double 0 :: st)) : E G M d Q h n mc ms pc ls st := by
  subst hq
  intro p e R s m args below meth c H locs cells slots mt mS la X hR hS hL hc hs
  exact lv_dconst0 X.1 X.2.1 hd (k p e R s m args below meth c H locs cells slots mt mS la X hR hS hL hc hs)
theorem ez_dconst1 {G : ez_G} {M : ez_M} {d : Nat} {Q : ez_Q} {h : ez_H} {n mc ms pc q : Nat} {ls : List (Option Value)} {st : List Value}  (hd : decode M.2.1 pc = .ok (.dconst 1, 1))  (hq : pc + 1 = q) (k : E G M d Q h n mc ms q ls (.double 0x3ff0000000000000 :: st)) : E G M d Q h n mc ms pc ls st := by
  subst hq
  intro p e R s m args below meth c H locs cells slots mt mS la X hR hS hL hc hs
  exact lv_dconst1 X.1 X.2.1 hd (k p e R s m args below meth c H locs cells slots mt mS la X hR hS hL hc hs)
theorem ez_iload_n {G : ez_G} {M : ez_M} {d : Nat} {Q : ez_Q} {h : ez_H} {n mc ms pc q : Nat} {ls : List (Option Value)} {st : List Value} {f : Fin 4} {x : Int32} (i : Nat) (hd : decode M.2.1 pc = .ok (.iload_n f, 1)) (hi : (f : Nat) = i) (hl : ls[i]? = some (some (.int x))) (hq : pc + 1 = q) (k : E G M d Q h n mc ms q ls (.int x :: st)) : E G M d Q h n mc ms pc ls st := by
  subst hq
  intro p e R s m args below meth c H locs cells slots mt mS la X hR hS hL hc hs
  exact lv_iload_n X.1 X.2.1 hd hi (hL.2.2 i _ hl) (k p e R s m args below meth c H locs cells slots mt mS la X hR hS hL hc hs)
theorem ez_iload {G : ez_G} {M : ez_M} {d : Nat} {Q : ez_Q} {h : ez_H} {n mc ms pc q : Nat} {ls : List (Option Value)} {st : List Value} {i : Nat} {x : Int32} (hd : decode M.2.1 pc = .ok (.iload i, 2)) (hl : ls[i]? = some (some (.int x))) (hq : pc + 2 = q) (k : E G M d Q h n mc ms q ls (.int x :: st)) : E G M d Q h n mc ms pc ls st := by
  subst hq
  intro p e R s m args below meth c H locs cells slots mt mS la X hR hS hL hc hs
  exact lv_iload X.1 X.2.1 hd (hL.2.2 i _ hl) (k p e R s m args below meth c H locs cells slots mt mS la X hR hS hL hc hs)
theorem ez_aload_n {G : ez_G} {M : ez_M} {d : Nat} {Q : ez_Q} {h : ez_H} {n mc ms pc q : Nat} {ls : List (Option Value)} {st : List Value} {f : Fin 4} {x : Nat} (i : Nat) (hd : decode M.2.1 pc = .ok (.aload_n f, 1)) (hi : (f : Nat) = i) (hl : ls[i]? = some (some (.ref x))) (hq : pc + 1 = q) (k : E G M d Q h n mc ms q ls (.ref x :: st)) : E G M d Q h n mc ms pc ls st := by
  subst hq
  intro p e R s m args below meth c H locs cells slots mt mS la X hR hS hL hc hs
  exact lv_aload_n X.1 X.2.1 hd hi (hL.2.2 i _ hl) (k p e R s m args below meth c H locs cells slots mt mS la X hR hS hL hc hs)
theorem ez_aload {G : ez_G} {M : ez_M} {d : Nat} {Q : ez_Q} {h : ez_H} {n mc ms pc q : Nat} {ls : List (Option Value)} {st : List Value} {i : Nat} {x : Nat} (hd : decode M.2.1 pc = .ok (.aload i, 2)) (hl : ls[i]? = some (some (.ref x))) (hq : pc + 2 = q) (k : E G M d Q h n mc ms q ls (.ref x :: st)) : E G M d Q h n mc ms pc ls st := by
  subst hq
  intro p e R s m args below meth c H locs cells slots mt mS la X hR hS hL hc hs
  exact lv_aload X.1 X.2.1 hd (hL.2.2 i _ hl) (k p e R s m args below meth c H locs cells slots mt mS la X hR hS hL hc hs)
theorem ez_lload_n {G : ez_G} {M : ez_M} {d : Nat} {Q : ez_Q} {h : ez_H} {n mc ms pc q : Nat} {ls : List (Option Value)} {st : List Value} {f : Fin 4} {x : Int64} (i : Nat) (hd : decode M.2.1 pc = .ok (.lload_n f, 1)) (hi : (f : Nat) = i) (hl : ls[i]? = some (some (.long x))) (hq : pc + 1 = q) (k : E G M d Q h n mc ms q ls (.long x :: st)) : E G M d Q h n mc ms pc ls st := by
  subst hq
  intro p e R s m args below meth c H locs cells slots mt mS la X hR hS hL hc hs
  exact lv_lload_n X.1 X.2.1 hd hi (hL.2.2 i _ hl) (k p e R s m args below meth c H locs cells slots mt mS la X hR hS hL hc hs)
theorem ez_lload {G : ez_G} {M : ez_M} {d : Nat} {Q : ez_Q} {h : ez_H} {n mc ms pc q : Nat} {ls : List (Option Value)} {st : List Value} {i : Nat} {x : Int64} (hd : decode M.2.1 pc = .ok (.lload i, 2)) (hl : ls[i]? = some (some (.long x))) (hq : pc + 2 = q) (k : E G M d Q h n mc ms q ls (.long x :: st)) : E G M d Q h n mc ms pc ls st := by
  subst hq
  intro p e R s m args below meth c H locs cells slots mt mS la X hR hS hL hc hs
  exact lv_lload X.1 X.2.1 hd (hL.2.2 i _ hl) (k p e R s m args below meth c H locs cells slots mt mS la X hR hS hL hc hs)
theorem ez_dload_n {G : ez_G} {M : ez_M} {d : Nat} {Q : ez_Q} {h : ez_H} {n mc ms pc q : Nat} {ls : List (Option Value)} {st : List Value} {f : Fin 4} {x : UInt64} (i : Nat) (hd : decode M.2.1 pc = .ok (.dload_n f, 1)) (hi : (f : Nat) = i) (hl : ls[i]? = some (some (.double x))) (hq : pc + 1 = q) (k : E G M d Q h n mc ms q ls (.double x :: st)) : E G M d Q h n mc ms pc ls st := by
  subst hq
  intro p e R s m args below meth c H locs cells slots mt mS la X hR hS hL hc hs
  exact lv_dload_n X.1 X.2.1 hd hi (hL.2.2 i _ hl) (k p e R s m args below meth c H locs cells slots mt mS la X hR hS hL hc hs)
theorem ez_dload {G : ez_G} {M : ez_M} {d : Nat} {Q : ez_Q} {h : ez_H} {n mc ms pc q : Nat} {ls : List (Option Value)} {st : List Value} {i : Nat} {x : UInt64} (hd : decode M.2.1 pc = .ok (.dload i, 2)) (hl : ls[i]? = some (some (.double x))) (hq : pc + 2 = q) (k : E G M d Q h n mc ms q ls (.double x :: st)) : E G M d Q h n mc ms pc ls st := by
  subst hq
  intro p e R s m args below meth c H locs cells slots mt mS la X hR hS hL hc hs
  exact lv_dload X.1 X.2.1 hd (hL.2.2 i _ hl) (k p e R s m args below meth c H locs cells slots mt mS la X hR hS hL hc hs)
theorem ez_istore_n' {G : ez_G} {M : ez_M} {d : Nat} {Q : ez_Q} {h : ez_H} {n mc ms pc q : Nat} {ls : List (Option Value)} {st : List Value} {f : Fin 4} (i : Nat) {x : Int32} {ls' : List (Option Value)} (hd : decode M.2.1 pc = .ok (.istore_n f, 1)) (hi : (f : Nat) = i) (hn : i < M.2.2.1) (hs' : ls.set i (some (.int x)) = ls') (hc' : i = 0 ∨ ∃ x, ls[i - 1]? = some x ∧ ez_c1 x = true) (hq : pc + 1 = q) (k : E G M d Q h n mc ms q ls' st) : E G M d Q h n mc ms pc ls (.int x :: st) := by
  subst hq
  intro p e R s m args below meth c H locs cells slots mt mS la X hR hS hL hc hs
  exact lv_istore_n X.1 X.2.1 hd hi hL.has hn rfl (fun la' hl' => k p e R s m args below meth c H locs cells slots mt mS la' X hR hS (ez_L.st1 hl' hs' hc') hc hs)
theorem ez_istore' {G : ez_G} {M : ez_M} {d : Nat} {Q : ez_Q} {h : ez_H} {n mc ms pc q : Nat} {ls : List (Option Value)} {st : List Value} {i : Nat} {x : Int32} {ls' : List (Option Value)} (hd : decode M.2.1 pc = .ok (.istore i, 2)) (hn : i < M.2.2.1) (hs' : ls.set i (some (.int x)) = ls') (hc' : i = 0 ∨ ∃ x, ls[i - 1]? = some x ∧ ez_c1 x = true) (hq : pc + 2 = q) (k : E G M d Q h n mc ms q ls' st) : E G M d Q h n mc ms pc ls (.int x :: st) := by
  subst hq
  intro p e R s m args below meth c H locs cells slots mt mS la X hR hS hL hc hs
  exact lv_istore X.1 X.2.1 hd hL.has hn rfl (fun la' hl' => k p e R s m args below meth c H locs cells slots mt mS la' X hR hS (ez_L.st1 hl' hs' hc') hc hs)
theorem ez_astore_n' {G : ez_G} {M : ez_M} {d : Nat} {Q : ez_Q} {h : ez_H} {n mc ms pc q : Nat} {ls : List (Option Value)} {st : List Value} {f : Fin 4} (i : Nat) {x : Nat} {ls' : List (Option Value)} (hd : decode M.2.1 pc = .ok (.astore_n f, 1)) (hi : (f : Nat) = i) (hn : i < M.2.2.1) (hs' : ls.set i (some (.ref x)) = ls') (hc' : i = 0 ∨ ∃ x, ls[i - 1]? = some x ∧ ez_c1 x = true) (hq : pc + 1 = q) (k : E G M d Q h n mc ms q ls' st) : E G M d Q h n mc ms pc ls (.ref x :: st) := by
  subst hq
  intro p e R s m args below meth c H locs cells slots mt mS la X hR hS hL hc hs
  exact lv_astore_n X.1 X.2.1 hd hi hL.has hn rfl (fun la' hl' => k p e R s m args below meth c H locs cells slots mt mS la' X hR hS (ez_L.st1 hl' hs' hc') hc hs)
theorem ez_astore' {G : ez_G} {M : ez_M} {d : Nat} {Q : ez_Q} {h : ez_H} {n mc ms pc q : Nat} {ls : List (Option Value)} {st : List Value} {i : Nat} {x : Nat} {ls' : List (Option Value)} (hd : decode M.2.1 pc = .ok (.astore i, 2)) (hn : i < M.2.2.1) (hs' : ls.set i (some (.ref x)) = ls') (hc' : i = 0 ∨ ∃ x, ls[i - 1]? = some x ∧ ez_c1 x = true) (hq : pc + 2 = q) (k : E G M d Q h n mc ms q ls' st) : E G M d Q h n mc ms pc ls (.ref x :: st) := by
  subst hq
  intro p e R s m args below meth c H locs cells slots mt mS la X hR hS hL hc hs
  exact lv_astore X.1 X.2.1 hd hL.has hn rfl (fun la' hl' => k p e R s m args below meth c H locs cells slots mt mS la' X hR hS (ez_L.st1 hl' hs' hc') hc hs)
theorem ez_lstore_n' {G : ez_G} {M : ez_M} {d : Nat} {Q : ez_Q} {h : ez_H} {n mc ms pc q : Nat} {ls : List (Option Value)} {st : List Value} {f : Fin 4} (i : Nat) {x : Int64} {ls' : List (Option Value)} (hd : decode M.2.1 pc = .ok (.lstore_n f, 1)) (hi : (f : Nat) = i) (hn : i + 1 < M.2.2.1) (hs' : (ls.set i (some (.long x))).set (i + 1) none = ls') (hc' : i = 0 ∨ ∃ x, ls[i - 1]? = some x ∧ ez_c1 x = true) (hq : pc + 1 = q) (k : E G M d Q h n mc ms q ls' st) : E G M d Q h n mc ms pc ls (.long x :: st) := by
  subst hq
  intro p e R s m args below meth c H locs cells slots mt mS la X hR hS hL hc hs
  exact lv_lstore_n X.1 X.2.1 hd hi hL.has hn rfl (fun la' hl' => k p e R s m args below meth c H locs cells slots mt mS la' X hR hS (ez_L.st2 hl' hs' hc') hc hs)
theorem ez_lstore' {G : ez_G} {M : ez_M} {d : Nat} {Q : ez_Q} {h : ez_H} {n mc ms pc q : Nat} {ls : List (Option Value)} {st : List Value} {i : Nat} {x : Int64} {ls' : List (Option Value)} (hd : decode M.2.1 pc = .ok (.lstore i, 2)) (hn : i + 1 < M.2.2.1) (hs' : (ls.set i (some (.long x))).set (i + 1) none = ls') (hc' : i = 0 ∨ ∃ x, ls[i - 1]? = some x ∧ ez_c1 x = true) (hq : pc + 2 = q) (k : E G M d Q h n mc ms q ls' st) : E G M d Q h n mc ms pc ls (.long x :: st) := by
  subst hq
  intro p e R s m args below meth c H locs cells slots mt mS la X hR hS hL hc hs
  exact lv_lstore X.1 X.2.1 hd hL.has hn rfl (fun la' hl' => k p e R s m args below meth c H locs cells slots mt mS la' X hR hS (ez_L.st2 hl' hs' hc') hc hs)
theorem ez_dstore_n' {G : ez_G} {M : ez_M} {d : Nat} {Q : ez_Q} {h : ez_H} {n mc ms pc q : Nat} {ls : List (Option Value)} {st : List Value} {f : Fin 4} (i : Nat) {x : UInt64} {ls' : List (Option Value)} (hd : decode M.2.1 pc = .ok (.dstore_n f, 1)) (hi : (f : Nat) = i) (hn : i + 1 < M.2.2.1) (hs' : (ls.set i (some (.double x))).set (i + 1) none = ls') (hc' : i = 0 ∨ ∃ x, ls[i - 1]? = some x ∧ ez_c1 x = true) (hq : pc + 1 = q) (k : E G M d Q h n mc ms q ls' st) : E G M d Q h n mc ms pc ls (.double x :: st) := by
  subst hq
  intro p e R s m args below meth c H locs cells slots mt mS la X hR hS hL hc hs
  exact lv_dstore_n X.1 X.2.1 hd hi hL.has hn rfl (fun la' hl' => k p e R s m args below meth c H locs cells slots mt mS la' X hR hS (ez_L.st2 hl' hs' hc') hc hs)
theorem ez_dstore' {G : ez_G} {M : ez_M} {d : Nat} {Q : ez_Q} {h : ez_H} {n mc ms pc q : Nat} {ls : List (Option Value)} {st : List Value} {i : Nat} {x : UInt64} {ls' : List (Option Value)} (hd : decode M.2.1 pc = .ok (.dstore i, 2)) (hn : i + 1 < M.2.2.1) (hs' : (ls.set i (some (.double x))).set (i + 1) none = ls') (hc' : i = 0 ∨ ∃ x, ls[i - 1]? = some x ∧ ez_c1 x = true) (hq : pc + 2 = q) (k : E G M d Q h n mc ms q ls' st) : E G M d Q h n mc ms pc ls (.double x :: st) := by
  subst hq
  intro p e R s m args below meth c H locs cells slots mt mS la X hR hS hL hc hs
  exact lv_dstore X.1 X.2.1 hd hL.has hn rfl (fun la' hl' => k p e R s m args below meth c H locs cells slots mt mS la' X hR hS (ez_L.st2 hl' hs' hc') hc hs)
theorem ez_lk {G : ez_G} {ls : List (Option Value)} {i : Nat} {x : Value} (h : ls[i]? = some (some x)) : ∃ k : Nat, (ez_prs G 0 ls)[k]? = some (i, ez_v G x) := by
  have h2 := ez_prs_of (G := G) (k := 0) h
  rw [Nat.zero_add] at h2
  exact List.getElem?_of_mem h2
theorem ez_iinc' {G : ez_G} {M : ez_M} {d : Nat} {Q : ez_Q} {h : ez_H} {n mc ms pc q : Nat} {ls : List (Option Value)} {st : List Value} {i : Nat} {z : Int} {x v : Int32} {ls' : List (Option Value)} (hd : decode M.2.1 pc = .ok (.iinc i z, 3)) (hl : ls[i]? = some (some (.int x))) (hv : x + Int32.ofInt z = v) (hn : i < M.2.2.1) (hs' : ls.set i (some (.int v)) = ls') (hc' : i = 0 ∨ ∃ x, ls[i - 1]? = some x ∧ ez_c1 x = true) (hq : pc + 3 = q) (k : E G M d Q h n mc ms q ls' st) : E G M d Q h n mc ms pc ls st := by
  subst hq
  intro p e R s m args below meth c H locs cells slots mt mS la X hR hS hL hc hs
  obtain ⟨kk, hk⟩ := ez_lk (G := G) hl
  exact lv_iinc X.1 X.2.1 hd hL.has hk hv hn rfl (fun la' hl' => k p e R s m args below meth c H locs cells slots mt mS la' X hR hS (ez_L.st1 hl' hs' hc') hc hs)
theorem ez_istore_0 {G : ez_G} {M : ez_M} {d : Nat} {Q : ez_Q} {h : ez_H} {n mc ms pc q : Nat} {ls : List (Option Value)} {st : List Value} {x0 : Option Value} {r : List (Option Value)} {x : Int32} {f : Fin 4} (hd : decode M.2.1 pc = .ok (.istore_n f, 1)) (hi : (f : Nat) = 0) (hn : 0 < M.2.2.1) (hq : pc + 1 = q) (k : E G M d Q h n mc ms q (some (.int x) :: r) st) : E G M d Q h n mc ms pc (x0 :: r) (.int x :: st) := ez_istore_n' 0 hd hi hn rfl (Or.inl rfl) hq k
theorem ez_istore_1 {G : ez_G} {M : ez_M} {d : Nat} {Q : ez_Q} {h : ez_H} {n mc ms pc q : Nat} {ls : List (Option Value)} {st : List Value} {x0 x1 : Option Value} {r : List (Option Value)} {x : Int32} {f : Fin 4} (hd : decode M.2.1 pc = .ok (.istore_n f, 1)) (hi : (f : Nat) = 1) (hn : 1 < M.2.2.1) (hc1 : ez_c1 x0 = true) (hq : pc + 1 = q) (k : E G M d Q h n mc ms q (x0 :: some (.int x) :: r) st) : E G M d Q h n mc ms pc (x0 :: x1 :: r) (.int x :: st) := ez_istore_n' 1 hd hi hn rfl (Or.inr ⟨x0, rfl, hc1⟩) hq k
theorem ez_istore_2 {G : ez_G} {M : ez_M} {d : Nat} {Q : ez_Q} {h : ez_H} {n mc ms pc q : Nat} {ls : List (Option Value)} {st : List Value} {x0 x1 x2 : Option Value} {r : List (Option Value)} {x : Int32} {f : Fin 4} (hd : decode M.2.1 pc = .ok (.istore_n f, 1)) (hi : (f : Nat) = 2) (hn : 2 < M.2.2.1) (hc1 : ez_c1 x1 = true) (hq : pc + 1 = q) (k : E G M d Q h n mc ms q (x0 :: x1 :: some (.int x) :: r) st) : E G M d Q h n mc ms pc (x0 :: x1 :: x2 :: r) (.int x :: st) := ez_istore_n' 2 hd hi hn rfl (Or.inr ⟨x1, rfl, hc1⟩) hq k
theorem ez_istore_3 {G : ez_G} {M : ez_M} {d : Nat} {Q : ez_Q} {h : ez_H} {n mc ms pc q : Nat} {ls : List (Option Value)} {st : List Value} {x0 x1 x2 x3 : Option Value} {r : List (Option Value)} {x : Int32} {f : Fin 4} (hd : decode M.2.1 pc = .ok (.istore_n f, 1)) (hi : (f : Nat) = 3) (hn : 3 < M.2.2.1) (hc1 : ez_c1 x2 = true) (hq : pc + 1 = q) (k : E G M d Q h n mc ms q (x0 :: x1 :: x2 :: some (.int x) :: r) st) : E G M d Q h n mc ms pc (x0 :: x1 :: x2 :: x3 :: r) (.int x :: st) := ez_istore_n' 3 hd hi hn rfl (Or.inr ⟨x2, rfl, hc1⟩) hq k
theorem ez_istore_4 {G : ez_G} {M : ez_M} {d : Nat} {Q : ez_Q} {h : ez_H} {n mc ms pc q : Nat} {ls : List (Option Value)} {st : List Value} {x0 x1 x2 x3 x4 : Option Value} {r : List (Option Value)} {x : Int32} (hd : decode M.2.1 pc = .ok (.istore 4, 2)) (hn : 4 < M.2.2.1) (hc1 : ez_c1 x3 = true) (hq : pc + 2 = q) (k : E G M d Q h n mc ms q (x0 :: x1 :: x2 :: x3 :: some (.int x) :: r) st) : E G M d Q h n mc ms pc (x0 :: x1 :: x2 :: x3 :: x4 :: r) (.int x :: st) := ez_istore' hd hn rfl (Or.inr ⟨x3, rfl, hc1⟩) hq k
theorem ez_istore_5 {G : ez_G} {M : ez_M} {d : Nat} {Q : ez_Q} {h : ez_H} {n mc ms pc q : Nat} {ls : List (Option Value)} {st : List Value} {x0 x1 x2 x3 x4 x5 : Option Value} {r : List (Option Value)} {x : Int32} (hd : decode M.2.1 pc = .ok (.istore 5, 2)) (hn : 5 < M.2.2.1) (hc1 : ez_c1 x4 = true) (hq : pc + 2 = q) (k : E G M d Q h n mc ms q (x0 :: x1 :: x2 :: x3 :: x4 :: some (.int x) :: r) st) : E G M d Q h n mc ms pc (x0 :: x1 :: x2 :: x3 :: x4 :: x5 :: r) (.int x :: st) := ez_istore' hd hn rfl (Or.inr ⟨x4, rfl, hc1⟩) hq k
theorem ez_istore_6 {G : ez_G} {M : ez_M} {d : Nat} {Q : ez_Q} {h : ez_H} {n mc ms pc q : Nat} {ls : List (Option Value)} {st : List Value} {x0 x1 x2 x3 x4 x5 x6 : Option Value} {r : List (Option Value)} {x : Int32} (hd : decode M.2.1 pc = .ok (.istore 6, 2)) (hn : 6 < M.2.2.1) (hc1 : ez_c1 x5 = true) (hq : pc + 2 = q) (k : E G M d Q h n mc ms q (x0 :: x1 :: x2 :: x3 :: x4 :: x5 :: some (.int x) :: r) st) : E G M d Q h n mc ms pc (x0 :: x1 :: x2 :: x3 :: x4 :: x5 :: x6 :: r) (.int x :: st) := ez_istore' hd hn rfl (Or.inr ⟨x5, rfl, hc1⟩) hq k
theorem ez_istore_7 {G : ez_G} {M : ez_M} {d : Nat} {Q : ez_Q} {h : ez_H} {n mc ms pc q : Nat} {ls : List (Option Value)} {st : List Value} {x0 x1 x2 x3 x4 x5 x6 x7 : Option Value} {r : List (Option Value)} {x : Int32} (hd : decode M.2.1 pc = .ok (.istore 7, 2)) (hn : 7 < M.2.2.1) (hc1 : ez_c1 x6 = true) (hq : pc + 2 = q) (k : E G M d Q h n mc ms q (x0 :: x1 :: x2 :: x3 :: x4 :: x5 :: x6 :: some (.int x) :: r) st) : E G M d Q h n mc ms pc (x0 :: x1 :: x2 :: x3 :: x4 :: x5 :: x6 :: x7 :: r) (.int x :: st) := ez_istore' hd hn rfl (Or.inr ⟨x6, rfl, hc1⟩) hq k
theorem ez_istore_8 {G : ez_G} {M : ez_M} {d : Nat} {Q : ez_Q} {h : ez_H} {n mc ms pc q : Nat} {ls : List (Option Value)} {st : List Value} {x0 x1 x2 x3 x4 x5 x6 x7 x8 : Option Value} {r : List (Option Value)} {x : Int32} (hd : decode M.2.1 pc = .ok (.istore 8, 2)) (hn : 8 < M.2.2.1) (hc1 : ez_c1 x7 = true) (hq : pc + 2 = q) (k : E G M d Q h n mc ms q (x0 :: x1 :: x2 :: x3 :: x4 :: x5 :: x6 :: x7 :: some (.int x) :: r) st) : E G M d Q h n mc ms pc (x0 :: x1 :: x2 :: x3 :: x4 :: x5 :: x6 :: x7 :: x8 :: r) (.int x :: st) := ez_istore' hd hn rfl (Or.inr ⟨x7, rfl, hc1⟩) hq k
theorem ez_istore_9 {G : ez_G} {M : ez_M} {d : Nat} {Q : ez_Q} {h : ez_H} {n mc ms pc q : Nat} {ls : List (Option Value)} {st : List Value} {x0 x1 x2 x3 x4 x5 x6 x7 x8 x9 : Option Value} {r : List (Option Value)} {x : Int32} (hd : decode M.2.1 pc = .ok (.istore 9, 2)) (hn : 9 < M.2.2.1) (hc1 : ez_c1 x8 = true) (hq : pc + 2 = q) (k : E G M d Q h n mc ms q (x0 :: x1 :: x2 :: x3 :: x4 :: x5 :: x6 :: x7 :: x8 :: some (.int x) :: r) st) : E G M d Q h n mc ms pc (x0 :: x1 :: x2 :: x3 :: x4 :: x5 :: x6 :: x7 :: x8 :: x9 :: r) (.int x :: st) := ez_istore' hd hn rfl (Or.inr ⟨x8, rfl, hc1⟩) hq k
theorem ez_istore_10 {G : ez_G} {M : ez_M} {d : Nat} {Q : ez_Q} {h : ez_H} {n mc ms pc q : Nat} {ls : List (Option Value)} {st : List Value} {x0 x1 x2 x3 x4 x5 x6 x7 x8 x9 x10 : Option Value} {r : List (Option Value)} {x : Int32} (hd : decode M.2.1 pc = .ok (.istore 10, 2)) (hn : 10 < M.2.2.1) (hc1 : ez_c1 x9 = true) (hq : pc + 2 = q) (k : E G M d Q h n mc ms q (x0 :: x1 :: x2 :: x3 :: x4 :: x5 :: x6 :: x7 :: x8 :: x9 :: some (.int x) :: r) st) : E G M d Q h n mc ms pc (x0 :: x1 :: x2 :: x3 :: x4 :: x5 :: x6 :: x7 :: x8 :: x9 :: x10 :: r) (.int x :: st) := ez_istore' hd hn rfl (Or.inr ⟨x9, rfl, hc1⟩) hq k
theorem ez_istore_11 {G : ez_G} {M : ez_M} {d : Nat} {Q : ez_Q} {h : ez_H} {n mc ms pc q : Nat} {ls : List (Option Value)} {st : List Value} {x0 x1 x2 x3 x4 x5 x6 x7 x8 x9 x10 x11 : Option Value} {r : List (Option Value)} {x : Int32} (hd : decode M.2.1 pc = .ok (.istore 11, 2)) (hn : 11 < M.2.2.1) (hc1 : ez_c1 x10 = true) (hq : pc + 2 = q) (k : E G M d Q h n mc ms q (x0 :: x1 :: x2 :: x3 :: x4 :: x5 :: x6 :: x7 :: x8 :: x9 :: x10 :: some (.int x) :: r) st) : E G M d Q h n mc ms pc (x0 :: x1 :: x2 :: x3 :: x4 :: x5 :: x6 :: x7 :: x8 :: x9 :: x10 :: x11 :: r) (.int x :: st) := ez_istore' hd hn rfl (Or.inr ⟨x10, rfl, hc1⟩) hq k
theorem ez_astore_0 {G : ez_G} {M : ez_M} {d : Nat} {Q : ez_Q} {h : ez_H} {n mc ms pc q : Nat} {ls : List (Option Value)} {st : List Value} {x0 : Option Value} {r : List (Option Value)} {x : Nat} {f : Fin 4} (hd : decode M.2.1 pc = .ok (.astore_n f, 1)) (hi : (f : Nat) = 0) (hn : 0 < M.2.2.1) (hq : pc + 1 = q) (k : E G M d Q h n mc ms q (some (.ref x) :: r) st) : E G M d Q h n mc ms pc (x0 :: r) (.ref x :: st) := ez_astore_n' 0 hd hi hn rfl (Or.inl rfl) hq k
theorem ez_astore_1 {G : ez_G} {M : ez_M} {d : Nat} {Q : ez_Q} {h : ez_H} {n mc ms pc q : Nat} {ls : List (Option Value)} {st : List Value} {x0 x1 : Option Value} {r : List (Option Value)} {x : Nat} {f : Fin 4} (hd : decode M.2.1 pc = .ok (.astore_n f, 1)) (hi : (f : Nat) = 1) (hn : 1 < M.2.2.1) (hc1 : ez_c1 x0 = true) (hq : pc + 1 = q) (k : E G M d Q h n mc ms q (x0 :: some (.ref x) :: r) st) : E G M d Q h n mc ms pc (x0 :: x1 :: r) (.ref x :: st) := ez_astore_n' 1 hd hi hn rfl (Or.inr ⟨x0, rfl, hc1⟩) hq k
theorem ez_astore_2 {G : ez_G} {M : ez_M} {d : Nat} {Q : ez_Q} {h : ez_H} {n mc ms pc q : Nat} {ls : List (Option Value)} {st : List Value} {x0 x1 x2 : Option Value} {r : List (Option Value)} {x : Nat} {f : Fin 4} (hd : decode M.2.1 pc = .ok (.astore_n f, 1)) (hi : (f : Nat) = 2) (hn : 2 < M.2.2.1) (hc1 : ez_c1 x1 = true) (hq : pc + 1 = q) (k : E G M d Q h n mc ms q (x0 :: x1 :: some (.ref x) :: r) st) : E G M d Q h n mc ms pc (x0 :: x1 :: x2 :: r) (.ref x :: st) := ez_astore_n' 2 hd hi hn rfl (Or.inr ⟨x1, rfl, hc1⟩) hq k
theorem ez_astore_3 {G : ez_G} {M : ez_M} {d : Nat} {Q : ez_Q} {h : ez_H} {n mc ms pc q : Nat} {ls : List (Option Value)} {st : List Value} {x0 x1 x2 x3 : Option Value} {r : List (Option Value)} {x : Nat} {f : Fin 4} (hd : decode M.2.1 pc = .ok (.astore_n f, 1)) (hi : (f : Nat) = 3) (hn : 3 < M.2.2.1) (hc1 : ez_c1 x2 = true) (hq : pc + 1 = q) (k : E G M d Q h n mc ms q (x0 :: x1 :: x2 :: some (.ref x) :: r) st) : E G M d Q h n mc ms pc (x0 :: x1 :: x2 :: x3 :: r) (.ref x :: st) := ez_astore_n' 3 hd hi hn rfl (Or.inr ⟨x2, rfl, hc1⟩) hq k
theorem ez_astore_4 {G : ez_G} {M : ez_M} {d : Nat} {Q : ez_Q} {h : ez_H} {n mc ms pc q : Nat} {ls : List (Option Value)} {st : List Value} {x0 x1 x2 x3 x4 : Option Value} {r : List (Option Value)} {x : Nat} (hd : decode M.2.1 pc = .ok (.astore 4, 2)) (hn : 4 < M.2.2.1) (hc1 : ez_c1 x3 = true) (hq : pc + 2 = q) (k : E G M d Q h n mc ms q (x0 :: x1 :: x2 :: x3 :: some (.ref x) :: r) st) : E G M d Q h n mc ms pc (x0 :: x1 :: x2 :: x3 :: x4 :: r) (.ref x :: st) := ez_astore' hd hn rfl (Or.inr ⟨x3, rfl, hc1⟩) hq k
theorem ez_astore_5 {G : ez_G} {M : ez_M} {d : Nat} {Q : ez_Q} {h : ez_H} {n mc ms pc q : Nat} {ls : List (Option Value)} {st : List Value} {x0 x1 x2 x3 x4 x5 : Option Value} {r : List (Option Value)} {x : Nat} (hd : decode M.2.1 pc = .ok (.astore 5, 2)) (hn : 5 < M.2.2.1) (hc1 : ez_c1 x4 = true) (hq : pc + 2 = q) (k : E G M d Q h n mc ms q (x0 :: x1 :: x2 :: x3 :: x4 :: some (.ref x) :: r) st) : E G M d Q h n mc ms pc (x0 :: x1 :: x2 :: x3 :: x4 :: x5 :: r) (.ref x :: st) := ez_astore' hd hn rfl (Or.inr ⟨x4, rfl, hc1⟩) hq k
theorem ez_astore_6 {G : ez_G} {M : ez_M} {d : Nat} {Q : ez_Q} {h : ez_H} {n mc ms pc q : Nat} {ls : List (Option Value)} {st : List Value} {x0 x1 x2 x3 x4 x5 x6 : Option Value} {r : List (Option Value)} {x : Nat} (hd : decode M.2.1 pc = .ok (.astore 6, 2)) (hn : 6 < M.2.2.1) (hc1 : ez_c1 x5 = true) (hq : pc + 2 = q) (k : E G M d Q h n mc ms q (x0 :: x1 :: x2 :: x3 :: x4 :: x5 :: some (.ref x) :: r) st) : E G M d Q h n mc ms pc (x0 :: x1 :: x2 :: x3 :: x4 :: x5 :: x6 :: r) (.ref x :: st) := ez_astore' hd hn rfl (Or.inr ⟨x5, rfl, hc1⟩) hq k
theorem ez_astore_7 {G : ez_G} {M : ez_M} {d : Nat} {Q : ez_Q} {h : ez_H} {n mc ms pc q : Nat} {ls : List (Option Value)} {st : List Value} {x0 x1 x2 x3 x4 x5 x6 x7 : Option Value} {r : List (Option Value)} {x : Nat} (hd : decode M.2.1 pc = .ok (.astore 7, 2)) (hn : 7 < M.2.2.1) (hc1 : ez_c1 x6 = true) (hq : pc + 2 = q) (k : E G M d Q h n mc ms q (x0 :: x1 :: x2 :: x3 :: x4 :: x5 :: x6 :: some (.ref x) :: r) st) : E G M d Q h n mc ms pc (x0 :: x1 :: x2 :: x3 :: x4 :: x5 :: x6 :: x7 :: r) (.ref x :: st) := ez_astore' hd hn rfl (Or.inr ⟨x6, rfl, hc1⟩) hq k
theorem ez_astore_8 {G : ez_G} {M : ez_M} {d : Nat} {Q : ez_Q} {h : ez_H} {n mc ms pc q : Nat} {ls : List (Option Value)} {st : List Value} {x0 x1 x2 x3 x4 x5 x6 x7 x8 : Option Value} {r : List (Option Value)} {x : Nat} (hd : decode M.2.1 pc = .ok (.astore 8, 2)) (hn : 8 < M.2.2.1) (hc1 : ez_c1 x7 = true) (hq : pc + 2 = q) (k : E G M d Q h n mc ms q (x0 :: x1 :: x2 :: x3 :: x4 :: x5 :: x6 :: x7 :: some (.ref x) :: r) st) : E G M d Q h n mc ms pc (x0 :: x1 :: x2 :: x3 :: x4 :: x5 :: x6 :: x7 :: x8 :: r) (.ref x :: st) := ez_astore' hd hn rfl (Or.inr ⟨x7, rfl, hc1⟩) hq k
theorem ez_astore_9 {G : ez_G} {M : ez_M} {d : Nat} {Q : ez_Q} {h : ez_H} {n mc ms pc q : Nat} {ls : List (Option Value)} {st : List Value} {x0 x1 x2 x3 x4 x5 x6 x7 x8 x9 : Option Value} {r : List (Option Value)} {x : Nat} (hd : decode M.2.1 pc = .ok (.astore 9, 2)) (hn : 9 < M.2.2.1) (hc1 : ez_c1 x8 = true) (hq : pc + 2 = q) (k : E G M d Q h n mc ms q (x0 :: x1 :: x2 :: x3 :: x4 :: x5 :: x6 :: x7 :: x8 :: some (.ref x) :: r) st) : E G M d Q h n mc ms pc (x0 :: x1 :: x2 :: x3 :: x4 :: x5 :: x6 :: x7 :: x8 :: x9 :: r) (.ref x :: st) := ez_astore' hd hn rfl (Or.inr ⟨x8, rfl, hc1⟩) hq k
theorem ez_astore_10 {G : ez_G} {M : ez_M} {d : Nat} {Q : ez_Q} {h : ez_H} {n mc ms pc q : Nat} {ls : List (Option Value)} {st : List Value} {x0 x1 x2 x3 x4 x5 x6 x7 x8 x9 x10 : Option Value} {r : List (Option Value)} {x : Nat} (hd : decode M.2.1 pc = .ok (.astore 10, 2)) (hn : 10 < M.2.2.1) (hc1 : ez_c1 x9 = true) (hq : pc + 2 = q) (k : E G M d Q h n mc ms q (x0 :: x1 :: x2 :: x3 :: x4 :: x5 :: x6 :: x7 :: x8 :: x9 :: some (.ref x) :: r) st) : E G M d Q h n mc ms pc (x0 :: x1 :: x2 :: x3 :: x4 :: x5 :: x6 :: x7 :: x8 :: x9 :: x10 :: r) (.ref x :: st) := ez_astore' hd hn rfl (Or.inr ⟨x9, rfl, hc1⟩) hq k
theorem ez_astore_11 {G : ez_G} {M : ez_M} {d : Nat} {Q : ez_Q} {h : ez_H} {n mc ms pc q : Nat} {ls : List (Option Value)} {st : List Value} {x0 x1 x2 x3 x4 x5 x6 x7 x8 x9 x10 x11 : Option Value} {r : List (Option Value)} {x : Nat} (hd : decode M.2.1 pc = .ok (.astore 11, 2)) (hn : 11 < M.2.2.1) (hc1 : ez_c1 x10 = true) (hq : pc + 2 = q) (k : E G M d Q h n mc ms q (x0 :: x1 :: x2 :: x3 :: x4 :: x5 :: x6 :: x7 :: x8 :: x9 :: x10 :: some (.ref x) :: r) st) : E G M d Q h n mc ms pc (x0 :: x1 :: x2 :: x3 :: x4 :: x5 :: x6 :: x7 :: x8 :: x9 :: x10 :: x11 :: r) (.ref x :: st) := ez_astore' hd hn rfl (Or.inr ⟨x10, rfl, hc1⟩) hq k
theorem ez_lstore_0 {G : ez_G} {M : ez_M} {d : Nat} {Q : ez_Q} {h : ez_H} {n mc ms pc q : Nat} {ls : List (Option Value)} {st : List Value} {x0 x1 : Option Value} {r : List (Option Value)} {x : Int64} {f : Fin 4} (hd : decode M.2.1 pc = .ok (.lstore_n f, 1)) (hi : (f : Nat) = 0) (hn : 0 + 1 < M.2.2.1) (hq : pc + 1 = q) (k : E G M d Q h n mc ms q (some (.long x) :: none :: r) st) : E G M d Q h n mc ms pc (x0 :: x1 :: r) (.long x :: st) := ez_lstore_n' 0 hd hi hn rfl (Or.inl rfl) hq k
theorem ez_lstore_1 {G : ez_G} {M : ez_M} {d : Nat} {Q : ez_Q} {h : ez_H} {n mc ms pc q : Nat} {ls : List (Option Value)} {st : List Value} {x0 x1 x2 : Option Value} {r : List (Option Value)} {x : Int64} {f : Fin 4} (hd : decode M.2.1 pc = .ok (.lstore_n f, 1)) (hi : (f : Nat) = 1) (hn : 1 + 1 < M.2.2.1) (hc1 : ez_c1 x0 = true) (hq : pc + 1 = q) (k : E G M d Q h n mc ms q (x0 :: some (.long x) :: none :: r) st) : E G M d Q h n mc ms pc (x0 :: x1 :: x2 :: r) (.long x :: st) := ez_lstore_n' 1 hd hi hn rfl (Or.inr ⟨x0, rfl, hc1⟩) hq k
theorem ez_lstore_2 {G : ez_G} {M : ez_M} {d : Nat} {Q : ez_Q} {h : ez_H} {n mc ms pc q : Nat} {ls : List (Option Value)} {st : List Value} {x0 x1 x2 x3 : Option Value} {r : List (Option Value)} {x : Int64} {f : Fin 4} (hd : decode M.2.1 pc = .ok (.lstore_n f, 1)) (hi : (f : Nat) = 2) (hn : 2 + 1 < M.2.2.1) (hc1 : ez_c1 x1 = true) (hq : pc + 1 = q) (k : E G M d Q h n mc ms q (x0 :: x1 :: some (.long x) :: none :: r) st) : E G M d Q h n mc ms pc (x0 :: x1 :: x2 :: x3 :: r) (.long x :: st) := ez_lstore_n' 2 hd hi hn rfl (Or.inr ⟨x1, rfl, hc1⟩) hq k
theorem ez_lstore_3 {G : ez_G} {M : ez_M} {d : Nat} {Q : ez_Q} {h : ez_H} {n mc ms pc q : Nat} {ls : List (Option Value)} {st : List Value} {x0 x1 x2 x3 x4 : Option Value} {r : List (Option Value)} {x : Int64} {f : Fin 4} (hd : decode M.2.1 pc = .ok (.lstore_n f, 1)) (hi : (f : Nat) = 3) (hn : 3 + 1 < M.2.2.1) (hc1 : ez_c1 x2 = true) (hq : pc + 1 = q) (k : E G M d Q h n mc ms q (x0 :: x1 :: x2 :: some (.long x) :: none :: r) st) : E G M d Q h n mc ms pc (x0 :: x1 :: x2 :: x3 :: x4 :: r) (.long x :: st) := ez_lstore_n' 3 hd hi hn rfl (Or.inr ⟨x2, rfl, hc1⟩) hq k
theorem ez_lstore_4 {G : ez_G} {M : ez_M} {d : Nat} {Q : ez_Q} {h : ez_H} {n mc ms pc q : Nat} {ls : List (Option Value)} {st : List Value} {x0 x1 x2 x3 x4 x5 : Option Value} {r : List (Option Value)} {x : Int64} (hd : decode M.2.1 pc = .ok (.lstore 4, 2)) (hn : 4 + 1 < M.2.2.1) (hc1 : ez_c1 x3 = true) (hq : pc + 2 = q) (k : E G M d Q h n mc ms q (x0 :: x1 :: x2 :: x3 :: some (.long x) :: none :: r) st) : E G M d Q h n mc ms pc (x0 :: x1 :: x2 :: x3 :: x4 :: x5 :: r) (.long x :: st) := ez_lstore' hd hn rfl (Or.inr ⟨x3, rfl, hc1⟩) hq k
theorem ez_lstore_5 {G : ez_G} {M : ez_M} {d : Nat} {Q : ez_Q} {h : ez_H} {n mc ms pc q : Nat} {ls : List (Option Value)} {st : List Value} {x0 x1 x2 x3 x4 x5 x6 : Option Value} {r : List (Option Value)} {x : Int64} (hd : decode M.2.1 pc = .ok (.lstore 5, 2)) (hn : 5 + 1 < M.2.2.1) (hc1 : ez_c1 x4 = true) (hq : pc + 2 = q) (k : E G M d Q h n mc ms q (x0 :: x1 :: x2 :: x3 :: x4 :: some (.long x) :: none :: r) st) : E G M d Q h n mc ms pc (x0 :: x1 :: x2 :: x3 :: x4 :: x5 :: x6 :: r) (.long x :: st) := ez_lstore' hd hn rfl (Or.inr ⟨x4, rfl, hc1⟩) hq k
theorem ez_lstore_6 {G : ez_G} {M : ez_M} {d : Nat} {Q : ez_Q} {h : ez_H} {n mc ms pc q : Nat} {ls : List (Option Value)} {st : List Value} {x0 x1 x2 x3 x4 x5 x6 x7 : Option Value} {r : List (Option Value)} {x : Int64} (hd : decode M.2.1 pc = .ok (.lstore 6, 2)) (hn : 6 + 1 < M.2.2.1) (hc1 : ez_c1 x5 = true) (hq : pc + 2 = q) (k : E G M d Q h n mc ms q (x0 :: x1 :: x2 :: x3 :: x4 :: x5 :: some (.long x) :: none :: r) st) : E G M d Q h n mc ms pc (x0 :: x1 :: x2 :: x3 :: x4 :: x5 :: x6 :: x7 :: r) (.long x :: st) := ez_lstore' hd hn rfl (Or.inr ⟨x5, rfl, hc1⟩) hq k
theorem ez_lstore_7 {G : ez_G} {M : ez_M} {d : Nat} {Q : ez_Q} {h : ez_H} {n mc ms pc q : Nat} {ls : List (Option Value)} {st : List Value} {x0 x1 x2 x3 x4 x5 x6 x7 x8 : Option Value} {r : List (Option Value)} {x : Int64} (hd : decode M.2.1 pc = .ok (.lstore 7, 2)) (hn : 7 + 1 < M.2.2.1) (hc1 : ez_c1 x6 = true) (hq : pc + 2 = q) (k : E G M d Q h n mc ms q (x0 :: x1 :: x2 :: x3 :: x4 :: x5 :: x6 :: some (.long x) :: none :: r) st) : E G M d Q h n mc ms pc (x0 :: x1 :: x2 :: x3 :: x4 :: x5 :: x6 :: x7 :: x8 :: r) (.long x :: st) := ez_lstore' hd hn rfl (Or.inr ⟨x6, rfl, hc1⟩) hq k
theorem ez_lstore_8 {G : ez_G} {M : ez_M} {d : Nat} {Q : ez_Q} {h : ez_H} {n mc ms pc q : Nat} {ls : List (Option Value)} {st : List Value} {x0 x1 x2 x3 x4 x5 x6 x7 x8 x9 : Option Value} {r : List (Option Value)} {x : Int64} (hd : decode M.2.1 pc = .ok (.lstore 8, 2)) (hn : 8 + 1 < M.2.2.1) (hc1 : ez_c1 x7 = true) (hq : pc + 2 = q) (k : E G M d Q h n mc ms q (x0 :: x1 :: x2 :: x3 :: x4 :: x5 :: x6 :: x7 :: some (.long x) :: none :: r) st) : E G M d Q h n mc ms pc (x0 :: x1 :: x2 :: x3 :: x4 :: x5 :: x6 :: x7 :: x8 :: x9 :: r) (.long x :: st) := ez_lstore' hd hn rfl (Or.inr ⟨x7, rfl, hc1⟩) hq k
theorem ez_dstore_0 {G : ez_G} {M : ez_M} {d : Nat} {Q : ez_Q} {h : ez_H} {n mc ms pc q : Nat} {ls : List (Option Value)} {st : List Value} {x0 x1 : Option Value} {r : List (Option Value)} {x : UInt64} {f : Fin 4} (hd : decode M.2.1 pc = .ok (.dstore_n f, 1)) (hi : (f : Nat) = 0) (hn : 0 + 1 < M.2.2.1) (hq : pc + 1 = q) (k : E G M d Q h n mc ms q (some (.double x) :: none :: r) st) : E G M d Q h n mc ms pc (x0 :: x1 :: r) (.double x :: st) := ez_dstore_n' 0 hd hi hn rfl (Or.inl rfl) hq k
theorem ez_dstore_1 {G : ez_G} {M : ez_M} {d : Nat} {Q : ez_Q} {h : ez_H} {n mc ms pc q : Nat} {ls : List (Option Value)} {st : List Value} {x0 x1 x2 : Option Value} {r : List (Option Value)} {x : UInt64} {f : Fin 4} (hd : decode M.2.1 pc = .ok (.dstore_n f, 1)) (hi : (f : Nat) = 1) (hn : 1 + 1 < M.2.2.1) (hc1 : ez_c1 x0 = true) (hq : pc + 1 = q) (k : E G M d Q h n mc ms q (x0 :: some (.double x) :: none :: r) st) : E G M d Q h n mc ms pc (x0 :: x1 :: x2 :: r) (.double x :: st) := ez_dstore_n' 1 hd hi hn rfl (Or.inr ⟨x0, rfl, hc1⟩) hq k
theorem ez_dstore_2 {G : ez_G} {M : ez_M} {d : Nat} {Q : ez_Q} {h : ez_H} {n mc ms pc q : Nat} {ls : List (Option Value)} {st : List Value} {x0 x1 x2 x3 : Option Value} {r : List (Option Value)} {x : UInt64} {f : Fin 4} (hd : decode M.2.1 pc = .ok (.dstore_n f, 1)) (hi : (f : Nat) = 2) (hn : 2 + 1 < M.2.2.1) (hc1 : ez_c1 x1 = true) (hq : pc + 1 = q) (k : E G M d Q h n mc ms q (x0 :: x1 :: some (.double x) :: none :: r) st) : E G M d Q h n mc ms pc (x0 :: x1 :: x2 :: x3 :: r) (.double x :: st) := ez_dstore_n' 2 hd hi hn rfl (Or.inr ⟨x1, rfl, hc1⟩) hq k
theorem ez_dstore_3 {G : ez_G} {M : ez_M} {d : Nat} {Q : ez_Q} {h : ez_H} {n mc ms pc q : Nat} {ls : List (Option Value)} {st : List Value} {x0 x1 x2 x3 x4 : Option Value} {r : List (Option Value)} {x : UInt64} {f : Fin 4} (hd : decode M.2.1 pc = .ok (.dstore_n f, 1)) (hi : (f : Nat) = 3) (hn : 3 + 1 < M.2.2.1) (hc1 : ez_c1 x2 = true) (hq : pc + 1 = q) (k : E G M d Q h n mc ms q (x0 :: x1 :: x2 :: some (.double x) :: none :: r) st) : E G M d Q h n mc ms pc (x0 :: x1 :: x2 :: x3 :: x4 :: r) (.double x :: st) := ez_dstore_n' 3 hd hi hn rfl (Or.inr ⟨x2, rfl, hc1⟩) hq k
theorem ez_dstore_4 {G : ez_G} {M : ez_M} {d : Nat} {Q : ez_Q} {h : ez_H} {n mc ms pc q : Nat} {ls : List (Option Value)} {st : List Value} {x0 x1 x2 x3 x4 x5 : Option Value} {r : List (Option Value)} {x : UInt64} (hd : decode M.2.1 pc = .ok (.dstore 4, 2)) (hn : 4 + 1 < M.2.2.1) (hc1 : ez_c1 x3 = true) (hq : pc + 2 = q) (k : E G M d Q h n mc ms q (x0 :: x1 :: x2 :: x3 :: some (.double x) :: none :: r) st) : E G M d Q h n mc ms pc (x0 :: x1 :: x2 :: x3 :: x4 :: x5 :: r) (.double x :: st) := ez_dstore' hd hn rfl (Or.inr ⟨x3, rfl, hc1⟩) hq k
theorem ez_dstore_5 {G : ez_G} {M : ez_M} {d : Nat} {Q : ez_Q} {h : ez_H} {n mc ms pc q : Nat} {ls : List (Option Value)} {st : List Value} {x0 x1 x2 x3 x4 x5 x6 : Option Value} {r : List (Option Value)} {x : UInt64} (hd : decode M.2.1 pc = .ok (.dstore 5, 2)) (hn : 5 + 1 < M.2.2.1) (hc1 : ez_c1 x4 = true) (hq : pc + 2 = q) (k : E G M d Q h n mc ms q (x0 :: x1 :: x2 :: x3 :: x4 :: some (.double x) :: none :: r) st) : E G M d Q h n mc ms pc (x0 :: x1 :: x2 :: x3 :: x4 :: x5 :: x6 :: r) (.double x :: st) := ez_dstore' hd hn rfl (Or.inr ⟨x4, rfl, hc1⟩) hq k
theorem ez_dstore_6 {G : ez_G} {M : ez_M} {d : Nat} {Q : ez_Q} {h : ez_H} {n mc ms pc q : Nat} {ls : List (Option Value)} {st : List Value} {x0 x1 x2 x3 x4 x5 x6 x7 : Option Value} {r : List (Option Value)} {x : UInt64} (hd : decode M.2.1 pc = .ok (.dstore 6, 2)) (hn : 6 + 1 < M.2.2.1) (hc1 : ez_c1 x5 = true) (hq : pc + 2 = q) (k : E G M d Q h n mc ms q (x0 :: x1 :: x2 :: x3 :: x4 :: x5 :: some (.double x) :: none :: r) st) : E G M d Q h n mc ms pc (x0 :: x1 :: x2 :: x3 :: x4 :: x5 :: x6 :: x7 :: r) (.double x :: st) := ez_dstore' hd hn rfl (Or.inr ⟨x5, rfl, hc1⟩) hq k
theorem ez_dstore_7 {G : ez_G} {M : ez_M} {d : Nat} {Q : ez_Q} {h : ez_H} {n mc ms pc q : Nat} {ls : List (Option Value)} {st : List Value} {x0 x1 x2 x3 x4 x5 x6 x7 x8 : Option Value} {r : List (Option Value)} {x : UInt64} (hd : decode M.2.1 pc = .ok (.dstore 7, 2)) (hn : 7 + 1 < M.2.2.1) (hc1 : ez_c1 x6 = true) (hq : pc + 2 = q) (k : E G M d Q h n mc ms q (x0 :: x1 :: x2 :: x3 :: x4 :: x5 :: x6 :: some (.double x) :: none :: r) st) : E G M d Q h n mc ms pc (x0 :: x1 :: x2 :: x3 :: x4 :: x5 :: x6 :: x7 :: x8 :: r) (.double x :: st) := ez_dstore' hd hn rfl (Or.inr ⟨x6, rfl, hc1⟩) hq k
theorem ez_dstore_8 {G : ez_G} {M : ez_M} {d : Nat} {Q : ez_Q} {h : ez_H} {n mc ms pc q : Nat} {ls : List (Option Value)} {st : List Value} {x0 x1 x2 x3 x4 x5 x6 x7 x8 x9 : Option Value} {r : List (Option Value)} {x : UInt64} (hd : decode M.2.1 pc = .ok (.dstore 8, 2)) (hn : 8 + 1 < M.2.2.1) (hc1 : ez_c1 x7 = true) (hq : pc + 2 = q) (k : E G M d Q h n mc ms q (x0 :: x1 :: x2 :: x3 :: x4 :: x5 :: x6 :: x7 :: some (.double x) :: none :: r) st) : E G M d Q h n mc ms pc (x0 :: x1 :: x2 :: x3 :: x4 :: x5 :: x6 :: x7 :: x8 :: x9 :: r) (.double x :: st) := ez_dstore' hd hn rfl (Or.inr ⟨x7, rfl, hc1⟩) hq k
theorem ez_iinc_0 {G : ez_G} {M : ez_M} {d : Nat} {Q : ez_Q} {h : ez_H} {n mc ms pc q : Nat} {ls : List (Option Value)} {st : List Value} {r : List (Option Value)} {x v : Int32} {z : Int} (hd : decode M.2.1 pc = .ok (.iinc 0 z, 3)) (hv : x + Int32.ofInt z = v) (hn : 0 < M.2.2.1) (hq : pc + 3 = q) (k : E G M d Q h n mc ms q (some (.int v) :: r) st) : E G M d Q h n mc ms pc (some (.int x) :: r) st := ez_iinc' hd rfl hv hn rfl (Or.inl rfl) hq k
theorem ez_iinc_1 {G : ez_G} {M : ez_M} {d : Nat} {Q : ez_Q} {h : ez_H} {n mc ms pc q : Nat} {ls : List (Option Value)} {st : List Value} {x0 : Option Value} {r : List (Option Value)} {x v : Int32} {z : Int} (hd : decode M.2.1 pc = .ok (.iinc 1 z, 3)) (hv : x + Int32.ofInt z = v) (hn : 1 < M.2.2.1) (hc1 : ez_c1 x0 = true) (hq : pc + 3 = q) (k : E G M d Q h n mc ms q (x0 :: some (.int v) :: r) st) : E G M d Q h n mc ms pc (x0 :: some (.int x) :: r) st := ez_iinc' hd rfl hv hn rfl (Or.inr ⟨x0, rfl, hc1⟩) hq k
theorem ez_iinc_2 {G : ez_G} {M : ez_M} {d : Nat} {Q : ez_Q} {h : ez_H} {n mc ms pc q : Nat} {ls : List (Option Value)} {st : List Value} {x0 x1 : Option Value} {r : List (Option Value)} {x v : Int32} {z : Int} (hd : decode M.2.1 pc = .ok (.iinc 2 z, 3)) (hv : x + Int32.ofInt z = v) (hn : 2 < M.2.2.1) (hc1 : ez_c1 x1 = true) (hq : pc + 3 = q) (k : E G M d Q h n mc ms q (x0 :: x1 :: some (.int v) :: r) st) : E G M d Q h n mc ms pc (x0 :: x1 :: some (.int x) :: r) st := ez_iinc' hd rfl hv hn rfl (Or.inr ⟨x1, rfl, hc1⟩) hq k
theorem ez_iinc_3 {G : ez_G} {M : ez_M} {d : Nat} {Q : ez_Q} {h : ez_H} {n mc ms pc q : Nat} {ls : List (Option Value)} {st : List Value} {x0 x1 x2 : Option Value} {r : List (Option Value)} {x v : Int32} {z : Int} (hd : decode M.2.1 pc = .ok (.iinc 3 z, 3)) (hv : x + Int32.ofInt z = v) (hn : 3 < M.2.2.1) (hc1 : ez_c1 x2 = true) (hq : pc + 3 = q) (k : E G M d Q h n mc ms q (x0 :: x1 :: x2 :: some (.int v) :: r) st) : E G M d Q h n mc ms pc (x0 :: x1 :: x2 :: some (.int x) :: r) st := ez_iinc' hd rfl hv hn rfl (Or.inr ⟨x2, rfl, hc1⟩) hq k
theorem ez_iinc_4 {G : ez_G} {M : ez_M} {d : Nat} {Q : ez_Q} {h : ez_H} {n mc ms pc q : Nat} {ls : List (Option Value)} {st : List Value} {x0 x1 x2 x3 : Option Value} {r : List (Option Value)} {x v : Int32} {z : Int} (hd : decode M.2.1 pc = .ok (.iinc 4 z, 3)) (hv : x + Int32.ofInt z = v) (hn : 4 < M.2.2.1) (hc1 : ez_c1 x3 = true) (hq : pc + 3 = q) (k : E G M d Q h n mc ms q (x0 :: x1 :: x2 :: x3 :: some (.int v) :: r) st) : E G M d Q h n mc ms pc (x0 :: x1 :: x2 :: x3 :: some (.int x) :: r) st := ez_iinc' hd rfl hv hn rfl (Or.inr ⟨x3, rfl, hc1⟩) hq k
theorem ez_iinc_5 {G : ez_G} {M : ez_M} {d : Nat} {Q : ez_Q} {h : ez_H} {n mc ms pc q : Nat} {ls : List (Option Value)} {st : List Value} {x0 x1 x2 x3 x4 : Option Value} {r : List (Option Value)} {x v : Int32} {z : Int} (hd : decode M.2.1 pc = .ok (.iinc 5 z, 3)) (hv : x + Int32.ofInt z = v) (hn : 5 < M.2.2.1) (hc1 : ez_c1 x4 = true) (hq : pc + 3 = q) (k : E G M d Q h n mc ms q (x0 :: x1 :: x2 :: x3 :: x4 :: some (.int v) :: r) st) : E G M d Q h n mc ms pc (x0 :: x1 :: x2 :: x3 :: x4 :: some (.int x) :: r) st := ez_iinc' hd rfl hv hn rfl (Or.inr ⟨x4, rfl, hc1⟩) hq k
theorem ez_iinc_6 {G : ez_G} {M : ez_M} {d : Nat} {Q : ez_Q} {h : ez_H} {n mc ms pc q : Nat} {ls : List (Option Value)} {st : List Value} {x0 x1 x2 x3 x4 x5 : Option Value} {r : List (Option Value)} {x v : Int32} {z : Int} (hd : decode M.2.1 pc = .ok (.iinc 6 z, 3)) (hv : x + Int32.ofInt z = v) (hn : 6 < M.2.2.1) (hc1 : ez_c1 x5 = true) (hq : pc + 3 = q) (k : E G M d Q h n mc ms q (x0 :: x1 :: x2 :: x3 :: x4 :: x5 :: some (.int v) :: r) st) : E G M d Q h n mc ms pc (x0 :: x1 :: x2 :: x3 :: x4 :: x5 :: some (.int x) :: r) st := ez_iinc' hd rfl hv hn rfl (Or.inr ⟨x5, rfl, hc1⟩) hq k
theorem ez_iinc_7 {G : ez_G} {M : ez_M} {d : Nat} {Q : ez_Q} {h : ez_H} {n mc ms pc q : Nat} {ls : List (Option Value)} {st : List Value} {x0 x1 x2 x3 x4 x5 x6 : Option Value} {r : List (Option Value)} {x v : Int32} {z : Int} (hd : decode M.2.1 pc = .ok (.iinc 7 z, 3)) (hv : x + Int32.ofInt z = v) (hn : 7 < M.2.2.1) (hc1 : ez_c1 x6 = true) (hq : pc + 3 = q) (k : E G M d Q h n mc ms q (x0 :: x1 :: x2 :: x3 :: x4 :: x5 :: x6 :: some (.int v) :: r) st) : E G M d Q h n mc ms pc (x0 :: x1 :: x2 :: x3 :: x4 :: x5 :: x6 :: some (.int x) :: r) st := ez_iinc' hd rfl hv hn rfl (Or.inr ⟨x6, rfl, hc1⟩) hq k
theorem ez_iinc_8 {G : ez_G} {M : ez_M} {d : Nat} {Q : ez_Q} {h : ez_H} {n mc ms pc q : Nat} {ls : List (Option Value)} {st : List Value} {x0 x1 x2 x3 x4 x5 x6 x7 : Option Value} {r : List (Option Value)} {x v : Int32} {z : Int} (hd : decode M.2.1 pc = .ok (.iinc 8 z, 3)) (hv : x + Int32.ofInt z = v) (hn : 8 < M.2.2.1) (hc1 : ez_c1 x7 = true) (hq : pc + 3 = q) (k : E G M d Q h n mc ms q (x0 :: x1 :: x2 :: x3 :: x4 :: x5 :: x6 :: x7 :: some (.int v) :: r) st) : E G M d Q h n mc ms pc (x0 :: x1 :: x2 :: x3 :: x4 :: x5 :: x6 :: x7 :: some (.int x) :: r) st := ez_iinc' hd rfl hv hn rfl (Or.inr ⟨x7, rfl, hc1⟩) hq k
theorem ez_iinc_9 {G : ez_G} {M : ez_M} {d : Nat} {Q : ez_Q} {h : ez_H} {n mc ms pc q : Nat} {ls : List (Option Value)} {st : List Value} {x0 x1 x2 x3 x4 x5 x6 x7 x8 : Option Value} {r : List (Option Value)} {x v : Int32} {z : Int} (hd : decode M.2.1 pc = .ok (.iinc 9 z, 3)) (hv : x + Int32.ofInt z = v) (hn : 9 < M.2.2.1) (hc1 : ez_c1 x8 = true) (hq : pc + 3 = q) (k : E G M d Q h n mc ms q (x0 :: x1 :: x2 :: x3 :: x4 :: x5 :: x6 :: x7 :: x8 :: some (.int v) :: r) st) : E G M d Q h n mc ms pc (x0 :: x1 :: x2 :: x3 :: x4 :: x5 :: x6 :: x7 :: x8 :: some (.int x) :: r) st := ez_iinc' hd rfl hv hn rfl (Or.inr ⟨x8, rfl, hc1⟩) hq k
theorem ez_iinc_10 {G : ez_G} {M : ez_M} {d : Nat} {Q : ez_Q} {h : ez_H} {n mc ms pc q : Nat} {ls : List (Option Value)} {st : List Value} {x0 x1 x2 x3 x4 x5 x6 x7 x8 x9 : Option Value} {r : List (Option Value)} {x v : Int32} {z : Int} (hd : decode M.2.1 pc = .ok (.iinc 10 z, 3)) (hv : x + Int32.ofInt z = v) (hn : 10 < M.2.2.1) (hc1 : ez_c1 x9 = true) (hq : pc + 3 = q) (k : E G M d Q h n mc ms q (x0 :: x1 :: x2 :: x3 :: x4 :: x5 :: x6 :: x7 :: x8 :: x9 :: some (.int v) :: r) st) : E G M d Q h n mc ms pc (x0 :: x1 :: x2 :: x3 :: x4 :: x5 :: x6 :: x7 :: x8 :: x9 :: some (.int x) :: r) st := ez_iinc' hd rfl hv hn rfl (Or.inr ⟨x9, rfl, hc1⟩) hq k
theorem ez_iinc_11 {G : ez_G} {M : ez_M} {d : Nat} {Q : ez_Q} {h : ez_H} {n mc ms pc q : Nat} {ls : List (Option Value)} {st : List Value} {x0 x1 x2 x3 x4 x5 x6 x7 x8 x9 x10 : Option Value} {r : List (Option Value)} {x v : Int32} {z : Int} (hd : decode M.2.1 pc = .ok (.iinc 11 z, 3)) (hv : x + Int32.ofInt z = v) (hn : 11 < M.2.2.1) (hc1 : ez_c1 x10 = true) (hq : pc + 3 = q) (k : E G M d Q h n mc ms q (x0 :: x1 :: x2 :: x3 :: x4 :: x5 :: x6 :: x7 :: x8 :: x9 :: x10 :: some (.int v) :: r) st) : E G M d Q h n mc ms pc (x0 :: x1 :: x2 :: x3 :: x4 :: x5 :: x6 :: x7 :: x8 :: x9 :: x10 :: some (.int x) :: r) st := ez_iinc' hd rfl hv hn rfl (Or.inr ⟨x10, rfl, hc1⟩) hq k
theorem ez_iadd {G : ez_G} {M : ez_M} {d : Nat} {Q : ez_Q} {h : ez_H} {n mc ms pc q : Nat} {ls : List (Option Value)} {st : List Value} {x y : Int32} (hd : decode M.2.1 pc = .ok (.iadd, 1))  (hq : pc + 1 = q) (k : E G M d Q h n mc ms q ls (.int (x + y) :: st)) : E G M d Q h n mc ms pc ls (.int y :: .int x :: st) := by
  subst hq
  intro p e R s m args below meth c H locs cells slots mt mS la X hR hS hL hc hs
  exact lv_iadd X.1 X.2.1 hd (k p e R s m args below meth c H locs cells slots mt mS la X hR hS hL hc hs)
theorem ez_isub {G : ez_G} {M : ez_M} {d : Nat} {Q : ez_Q} {h : ez_H} {n mc ms pc q : Nat} {ls : List (Option Value)} {st : List Value} {x y : Int32} (hd : decode M.2.1 pc = .ok (.isub, 1))  (hq : pc + 1 = q) (k : E G M d Q h n mc ms q ls (.int (x - y) :: st)) : E G M d Q h n mc ms pc ls (.int y :: .int x :: st) := by
  subst hq
  intro p e R s m args below meth c H locs cells slots mt mS la X hR hS hL hc hs
  exact lv_isub X.1 X.2.1 hd (k p e R s m args below meth c H locs cells slots mt mS la X hR hS hL hc hs)
theorem ez_imul {G : ez_G} {M : ez_M} {d : Nat} {Q : ez_Q} {h : ez_H} {n mc ms pc q : Nat} {ls : List (Option Value)} {st : List Value} {x y : Int32} (hd : decode M.2.1 pc = .ok (.imul, 1))  (hq : pc + 1 = q) (k : E G M d Q h n mc ms q ls (.int (x * y) :: st)) : E G M d Q h n mc ms pc ls (.int y :: .int x :: st) := by
  subst hq
  intro p e R s m args below meth c H locs cells slots mt mS la X hR hS hL hc hs
  exact lv_imul X.1 X.2.1 hd (k p e R s m args below meth c H locs cells slots mt mS la X hR hS hL hc hs)
theorem ez_iand {G : ez_G} {M : ez_M} {d : Nat} {Q : ez_Q} {h : ez_H} {n mc ms pc q : Nat} {ls : List (Option Value)} {st : List Value} {x y : Int32} (hd : decode M.2.1 pc = .ok (.iand, 1))  (hq : pc + 1 = q) (k : E G M d Q h n mc ms q ls (.int (x &&& y) :: st)) : E G M d Q h n mc ms pc ls (.int y :: .int x :: st) := by
  subst hq
  intro p e R s m args below meth c H locs cells slots mt mS la X hR hS hL hc hs
  exact lv_iand X.1 X.2.1 hd (k p e R s m args below meth c H locs cells slots mt mS la X hR hS hL hc hs)
theorem ez_ior {G : ez_G} {M : ez_M} {d : Nat} {Q : ez_Q} {h : ez_H} {n mc ms pc q : Nat} {ls : List (Option Value)} {st : List Value} {x y : Int32} (hd : decode M.2.1 pc = .ok (.ior, 1))  (hq : pc + 1 = q) (k : E G M d Q h n mc ms q ls (.int (x ||| y) :: st)) : E G M d Q h n mc ms pc ls (.int y :: .int x :: st) := by
  subst hq
  intro p e R s m args below meth c H locs cells slots mt mS la X hR hS hL hc hs
  exact lv_ior X.1 X.2.1 hd (k p e R s m args below meth c H locs cells slots mt mS la X hR hS hL hc hs)
theorem ez_ixor {G : ez_G} {M : ez_M} {d : Nat} {Q : ez_Q} {h : ez_H} {n mc ms pc q : Nat} {ls : List (Option Value)} {st : List Value} {x y : Int32} (hd : decode M.2.1 pc = .ok (.ixor, 1))  (hq : pc + 1 = q) (k : E G M d Q h n mc ms q ls (.int (x ^^^ y) :: st)) : E G M d Q h n mc ms pc ls (.int y :: .int x :: st) := by
  subst hq
  intro p e R s m args below meth c H locs cells slots mt mS la X hR hS hL hc hs
  exact lv_ixor X.1 X.2.1 hd (k p e R s m args below meth c H locs cells slots mt mS la X hR hS hL hc hs)
theorem ez_ishl {G : ez_G} {M : ez_M} {d : Nat} {Q : ez_Q} {h : ez_H} {n mc ms pc q : Nat} {ls : List (Option Value)} {st : List Value} {x y : Int32} (hd : decode M.2.1 pc = .ok (.ishl, 1))  (hq : pc + 1 = q) (k : E G M d Q h n mc ms q ls (.int (x <<< (y &&& 31)) :: st)) : E G M d Q h n mc ms pc ls (.int y :: .int x :: st) := by
  subst hq
  intro p e R s m args below meth c H locs cells slots mt mS la X hR hS hL hc hs
  exact lv_ishl X.1 X.2.1 hd (k p e R s m args below meth c H locs cells slots mt mS la X hR hS hL hc hs)
theorem ez_ishr {G : ez_G} {M : ez_M} {d : Nat} {Q : ez_Q} {h : ez_H} {n mc ms pc q : Nat} {ls : List (Option Value)} {st : List Value} {x y : Int32} (hd : decode M.2.1 pc = .ok (.ishr, 1))  (hq : pc + 1 = q) (k : E G M d Q h n mc ms q ls (.int (x >>> (y &&& 31)) :: st)) : E G M d Q h n mc ms pc ls (.int y :: .int x :: st) := by
  subst hq
  intro p e R s m args below meth c H locs cells slots mt mS la X hR hS hL hc hs
  exact lv_ishr X.1 X.2.1 hd (k p e R s m args below meth c H locs cells slots mt mS la X hR hS hL hc hs)
theorem ez_irem {G : ez_G} {M : ez_M} {d : Nat} {Q : ez_Q} {h : ez_H} {n mc ms pc q : Nat} {ls : List (Option Value)} {st : List Value} {x y : Int32} (hd : decode M.2.1 pc = .ok (.irem, 1)) (hne : ¬ y = 0) (hq : pc + 1 = q) (k : E G M d Q h n mc ms q ls (.int (x - x / y * y) :: st)) : E G M d Q h n mc ms pc ls (.int y :: .int x :: st) := by
  subst hq
  intro p e R s m args below meth c H locs cells slots mt mS la X hR hS hL hc hs
  exact lv_irem X.1 X.2.1 hd hne (k p e R s m args below meth c H locs cells slots mt mS la X hR hS hL hc hs)
theorem ez_iushr {G : ez_G} {M : ez_M} {d : Nat} {Q : ez_Q} {h : ez_H} {n mc ms pc q : Nat} {ls : List (Option Value)} {st : List Value} {x y v : Int32} (hd : decode M.2.1 pc = .ok (.iushr, 1)) (hv : (x.toUInt32 >>> (y.toUInt32 &&& Int32.toUInt32 31)).toInt32 = v) (hq : pc + 1 = q) (k : E G M d Q h n mc ms q ls (.int v :: st)) : E G M d Q h n mc ms pc ls (.int y :: .int x :: st) := by
  subst hq
  intro p e R s m args below meth c H locs cells slots mt mS la X hR hS hL hc hs
  exact lv_iushr X.1 X.2.1 hd hv (k p e R s m args below meth c H locs cells slots mt mS la X hR hS hL hc hs)
theorem ez_ladd {G : ez_G} {M : ez_M} {d : Nat} {Q : ez_Q} {h : ez_H} {n mc ms pc q : Nat} {ls : List (Option Value)} {st : List Value} {x y : Int64} (hd : decode M.2.1 pc = .ok (.ladd, 1))  (hq : pc + 1 = q) (k : E G M d Q h n mc ms q ls (.long (x + y) :: st)) : E G M d Q h n mc ms pc ls (.long y :: .long x :: st) := by
  subst hq
  intro p e R s m args below meth c H locs cells slots mt mS la X hR hS hL hc hs
  exact lv_ladd X.1 X.2.1 hd (k p e R s m args below meth c H locs cells slots mt mS la X hR hS hL hc hs)
theorem ez_lsub {G : ez_G} {M : ez_M} {d : Nat} {Q : ez_Q} {h : ez_H} {n mc ms pc q : Nat} {ls : List (Option Value)} {st : List Value} {x y : Int64} (hd : decode M.2.1 pc = .ok (.lsub, 1))  (hq : pc + 1 = q) (k : E G M d Q h n mc ms q ls (.long (x - y) :: st)) : E G M d Q h n mc ms pc ls (.long y :: .long x :: st) := by
  subst hq
  intro p e R s m args below meth c H locs cells slots mt mS la X hR hS hL hc hs
  exact lv_lsub X.1 X.2.1 hd (k p e R s m args below meth c H locs cells slots mt mS la X hR hS hL hc hs)
theorem ez_lmul {G : ez_G} {M : ez_M} {d : Nat} {Q : ez_Q} {h : ez_H} {n mc ms pc q : Nat} {ls : List (Option Value)} {st : List Value} {x y : Int64} (hd : decode M.2.1 pc = .ok (.lmul, 1))  (hq : pc + 1 = q) (k : E G M d Q h n mc ms q ls (.long (x * y) :: st)) : E G M d Q h n mc ms pc ls (.long y :: .long x :: st) := by
  subst hq
  intro p e R s m args below meth c H locs cells slots mt mS la X hR hS hL hc hs
  exact lv_lmul X.1 X.2.1 hd (k p e R s m args below meth c H locs cells slots mt mS la X hR hS hL hc hs)
theorem ez_lshl {G : ez_G} {M : ez_M} {d : Nat} {Q : ez_Q} {h : ez_H} {n mc ms pc q : Nat} {ls : List (Option Value)} {st : List Value} {x : Int64} {y : Int32} (hd : decode M.2.1 pc = .ok (.lshl, 1))  (hq : pc + 1 = q) (k : E G M d Q h n mc ms q ls (.long (x <<< (y.toInt64 &&& 63)) :: st)) : E G M d Q h n mc ms pc ls (.int y :: .long x :: st) := by
  subst hq
  intro p e R s m args below meth c H locs cells slots mt mS la X hR hS hL hc hs
  exact lv_lshl X.1 X.2.1 hd rfl (k p e R s m args below meth c H locs cells slots mt mS la X hR hS hL hc hs)
theorem ez_i2l {G : ez_G} {M : ez_M} {d : Nat} {Q : ez_Q} {h : ez_H} {n mc ms pc q : Nat} {ls : List (Option Value)} {st : List Value} {x : Int32} (hd : decode M.2.1 pc = .ok (.i2l, 1))  (hq : pc + 1 = q) (k : E G M d Q h n mc ms q ls (.long x.toInt64 :: st)) : E G M d Q h n mc ms pc ls (.int x :: st) := by
  subst hq
  intro p e R s m args below meth c H locs cells slots mt mS la X hR hS hL hc hs
  exact lv_i2l X.1 X.2.1 hd rfl (k p e R s m args below meth c H locs cells slots mt mS la X hR hS hL hc hs)
theorem ez_i2d {G : ez_G} {M : ez_M} {d : Nat} {Q : ez_Q} {h : ez_H} {n mc ms pc q : Nat} {ls : List (Option Value)} {st : List Value} {x : Int32} (hd : decode M.2.1 pc = .ok (.i2d, 1))  (hq : pc + 1 = q) (k : E G M d Q h n mc ms q ls (.double (FP.i2d x) :: st)) : E G M d Q h n mc ms pc ls (.int x :: st) := by
  subst hq
  intro p e R s m args below meth c H locs cells slots mt mS la X hR hS hL hc hs
  exact lv_i2d X.1 X.2.1 hd (k p e R s m args below meth c H locs cells slots mt mS la X hR hS hL hc hs)
theorem ez_i2c {G : ez_G} {M : ez_M} {d : Nat} {Q : ez_Q} {h : ez_H} {n mc ms pc q : Nat} {ls : List (Option Value)} {st : List Value} {x v : Int32} (hd : decode M.2.1 pc = .ok (.i2c, 1)) (hv : (x.toUInt32 % 65536).toInt32 = v) (hq : pc + 1 = q) (k : E G M d Q h n mc ms q ls (.int v :: st)) : E G M d Q h n mc ms pc ls (.int x :: st) := by
  subst hq
  intro p e R s m args below meth c H locs cells slots mt mS la X hR hS hL hc hs
  exact lv_i2c X.1 X.2.1 hd hv (k p e R s m args below meth c H locs cells slots mt mS la X hR hS hL hc hs)
theorem ez_d2l {G : ez_G} {M : ez_M} {d : Nat} {Q : ez_Q} {h : ez_H} {n mc ms pc q : Nat} {ls : List (Option Value)} {st : List Value} {x : UInt64} (hd : decode M.2.1 pc = .ok (.d2l, 1))  (hq : pc + 1 = q) (k : E G M d Q h n mc ms q ls (.long (FP.d2l x) :: st)) : E G M d Q h n mc ms pc ls (.double x :: st) := by
  subst hq
  intro p e R s m args below meth c H locs cells slots mt mS la X hR hS hL hc hs
  exact lv_d2l X.1 X.2.1 hd (k p e R s m args below meth c H locs cells slots mt mS la X hR hS hL hc hs)
theorem ez_lcmp {G : ez_G} {M : ez_M} {d : Nat} {Q : ez_Q} {h : ez_H} {n mc ms pc q : Nat} {ls : List (Option Value)} {st : List Value} {x y : Int64} (hd : decode M.2.1 pc = .ok (.lcmp, 1))  (hq : pc + 1 = q) (k : E G M d Q h n mc ms q ls (.int (lg_cmp x y) :: st)) : E G M d Q h n mc ms pc ls (.long y :: .long x :: st) := by
  subst hq
  intro p e R s m args below meth c H locs cells slots mt mS la X hR hS hL hc hs
  exact W.lcmp X.1 X.2.1 hd (k p e R s m args below meth c H locs cells slots mt mS la X hR hS hL hc hs)
theorem ez_dcmp {G : ez_G} {M : ez_M} {d : Nat} {Q : ez_Q} {h : ez_H} {n mc ms pc q : Nat} {ls : List (Option Value)} {st : List Value} {x y : UInt64} {op : CmpOp} (hd : decode M.2.1 pc = .ok (.dcmp op, 1))  (hq : pc + 1 = q) (k : E G M d Q h n mc ms q ls (.int (Op.cmpValue (FP.dcmp x y) op) :: st)) : E G M d Q h n mc ms pc ls (.double y :: .double x :: st) := by
  subst hq
  intro p e R s m args below meth c H locs cells slots mt mS la X hR hS hL hc hs
  exact lv_dcmp X.1 X.2.1 hd (k p e R s m args below meth c H locs cells slots mt mS la X hR hS hL hc hs)
theorem ez_dmul {G : ez_G} {M : ez_M} {d : Nat} {Q : ez_Q} {h : ez_H} {n mc ms pc q : Nat} {ls : List (Option Value)} {st : List Value} {x y : UInt64} (hd : decode M.2.1 pc = .ok (.dmul, 1)) (hne : vf_n64 (FP.dmul x y)) (hq : pc + 1 = q) (k : E G M d Q h n mc ms q ls (.double (FP.dmul x y) :: st)) : E G M d Q h n mc ms pc ls (.double y :: .double x :: st) := by
  subst hq
  intro p e R s m args below meth c H locs cells slots mt mS la X hR hS hL hc hs
  exact lv_dmul X.1 X.2.1 hd hne (k p e R s m args below meth c H locs cells slots mt mS la X hR hS hL hc hs)
theorem ez_ddiv {G : ez_G} {M : ez_M} {d : Nat} {Q : ez_Q} {h : ez_H} {n mc ms pc q : Nat} {ls : List (Option Value)} {st : List Value} {x y : UInt64} (hd : decode M.2.1 pc = .ok (.ddiv, 1)) (hne : vf_n64 (FP.ddiv x y)) (hq : pc + 1 = q) (k : E G M d Q h n mc ms q ls (.double (FP.ddiv x y) :: st)) : E G M d Q h n mc ms pc ls (.double y :: .double x :: st) := by
  subst hq
  intro p e R s m args below meth c H locs cells slots mt mS la X hR hS hL hc hs
  exact lv_ddiv X.1 X.2.1 hd hne (k p e R s m args below meth c H locs cells slots mt mS la X hR hS hL hc hs)
theorem ez_dsub {G : ez_G} {M : ez_M} {d : Nat} {Q : ez_Q} {h : ez_H} {n mc ms pc q : Nat} {ls : List (Option Value)} {st : List Value} {x y : UInt64} (hd : decode M.2.1 pc = .ok (.dsub, 1)) (hne : vf_n64 (FP.dsub x y)) (hq : pc + 1 = q) (k : E G M d Q h n mc ms q ls (.double (FP.dsub x y) :: st)) : E G M d Q h n mc ms pc ls (.double y :: .double x :: st) := by
  subst hq
  intro p e R s m args below meth c H locs cells slots mt mS la X hR hS hL hc hs
  exact lv_dsub X.1 X.2.1 hd hne (k p e R s m args below meth c H locs cells slots mt mS la X hR hS hL hc hs)
theorem ez_dup {G : ez_G} {M : ez_M} {d : Nat} {Q : ez_Q} {h : ez_H} {n mc ms pc q : Nat} {ls : List (Option Value)} {st : List Value} {v : Value} (hd : decode M.2.1 pc = .ok (.dup, 1)) (hv : v.category = 1) (hq : pc + 1 = q) (k : E G M d Q h n mc ms q ls (v :: v :: st)) : E G M d Q h n mc ms pc ls (v :: st) := by
  subst hq
  intro p e R s m args below meth c H locs cells slots mt mS la X hR hS hL hc hs
  exact lv_dup X.1 X.2.1 hd (by rw [ez_v_cat]; exact hv) (k p e R s m args below meth c H locs cells slots mt mS la X hR hS hL hc hs)
theorem ez_pop {G : ez_G} {M : ez_M} {d : Nat} {Q : ez_Q} {h : ez_H} {n mc ms pc q : Nat} {ls : List (Option Value)} {st : List Value} {v : Value} (hd : decode M.2.1 pc = .ok (.pop, 1)) (hv : v.category = 1) (hq : pc + 1 = q) (k : E G M d Q h n mc ms q ls st) : E G M d Q h n mc ms pc ls (v :: st) := by
  subst hq
  intro p e R s m args below meth c H locs cells slots mt mS la X hR hS hL hc hs
  exact lv_pop X.1 X.2.1 hd (by rw [ez_v_cat]; exact hv) (k p e R s m args below meth c H locs cells slots mt mS la X hR hS hL hc hs)
theorem ez_dup2 {G : ez_G} {M : ez_M} {d : Nat} {Q : ez_Q} {h : ez_H} {n mc ms pc q : Nat} {ls : List (Option Value)} {st : List Value} {v u : Value} (hd : decode M.2.1 pc = .ok (.dup2, 1)) (hv : v.category = 1) (hu : u.category = 1) (hq : pc + 1 = q) (k : E G M d Q h n mc ms q ls (v :: u :: v :: u :: st)) : E G M d Q h n mc ms pc ls (v :: u :: st) := by
  subst hq
  intro p e R s m args below meth c H locs cells slots mt mS la X hR hS hL hc hs
  exact lv_dup2_11 X.1 X.2.1 hd (by rw [ez_v_cat]; exact hv) (by rw [ez_v_cat]; exact hu) (k p e R s m args below meth c H locs cells slots mt mS la X hR hS hL hc hs)
theorem ez_ifeq {G : ez_G} {M : ez_M} {d : Nat} {Q : ez_Q} {h : ez_H} {n mc ms pc q : Nat} {ls : List (Option Value)} {st : List Value} {x : Int32} {off : Int} {tgt : Nat} (hd : decode M.2.1 pc = .ok (.ifCond .eq off, 3)) (ht : (pc : Int) + off = (tgt : Int)) (hq : pc + 3 = q) (kt : x = 0 → E G M d Q h n mc ms tgt ls st) (kf : ¬ x = 0 → E G M d Q h n mc ms q ls st) : E G M d Q h n mc ms pc ls (.int x :: st) := by
  subst hq
  intro p e R s m args below meth c H locs cells slots mt mS la X hR hS hL hc hs
  exact lv_if_eq X.1 X.2.1 hd ht (fun z => kt z p e R s m args below meth c H locs cells slots mt mS la X hR hS hL hc hs) (fun z => kf z p e R s m args below meth c H locs cells slots mt mS la X hR hS hL hc hs)
theorem ez_ifne {G : ez_G} {M : ez_M} {d : Nat} {Q : ez_Q} {h : ez_H} {n mc ms pc q : Nat} {ls : List (Option Value)} {st : List Value} {x : Int32} {off : Int} {tgt : Nat} (hd : decode M.2.1 pc = .ok (.ifCond .ne off, 3)) (ht : (pc : Int) + off = (tgt : Int)) (hq : pc + 3 = q) (kt : ¬ x = 0 → E G M d Q h n mc ms tgt ls st) (kf : x = 0 → E G M d Q h n mc ms q ls st) : E G M d Q h n mc ms pc ls (.int x :: st) := by
  subst hq
  intro p e R s m args below meth c H locs cells slots mt mS la X hR hS hL hc hs
  exact lv_if_ne X.1 X.2.1 hd ht (fun z => kt z p e R s m args below meth c H locs cells slots mt mS la X hR hS hL hc hs) (fun z => kf z p e R s m args below meth c H locs cells slots mt mS la X hR hS hL hc hs)
theorem ez_iflt {G : ez_G} {M : ez_M} {d : Nat} {Q : ez_Q} {h : ez_H} {n mc ms pc q : Nat} {ls : List (Option Value)} {st : List Value} {x : Int32} {off : Int} {tgt : Nat} (hd : decode M.2.1 pc = .ok (.ifCond .lt off, 3)) (ht : (pc : Int) + off = (tgt : Int)) (hq : pc + 3 = q) (kt : x < 0 → E G M d Q h n mc ms tgt ls st) (kf : ¬ x < 0 → E G M d Q h n mc ms q ls st) : E G M d Q h n mc ms pc ls (.int x :: st) := by
  subst hq
  intro p e R s m args below meth c H locs cells slots mt mS la X hR hS hL hc hs
  exact lv_if_lt X.1 X.2.1 hd ht (fun z => kt z p e R s m args below meth c H locs cells slots mt mS la X hR hS hL hc hs) (fun z => kf z p e R s m args below meth c H locs cells slots mt mS la X hR hS hL hc hs)
theorem ez_ifge {G : ez_G} {M : ez_M} {d : Nat} {Q : ez_Q} {h : ez_H} {n mc ms pc q : Nat} {ls : List (Option Value)} {st : List Value} {x : Int32} {off : Int} {tgt : Nat} (hd : decode M.2.1 pc = .ok (.ifCond .ge off, 3)) (ht : (pc : Int) + off = (tgt : Int)) (hq : pc + 3 = q) (kt : 0 ≤ x → E G M d Q h n mc ms tgt ls st) (kf : ¬ 0 ≤ x → E G M d Q h n mc ms q ls st) : E G M d Q h n mc ms pc ls (.int x :: st) := by
  subst hq
  intro p e R s m args below meth c H locs cells slots mt mS la X hR hS hL hc hs
  exact lv_if_ge X.1 X.2.1 hd ht (fun z => kt z p e R s m args below meth c H locs cells slots mt mS la X hR hS hL hc hs) (fun z => kf z p e R s m args below meth c H locs cells slots mt mS la X hR hS hL hc hs)
theorem ez_ifgt {G : ez_G} {M : ez_M} {d : Nat} {Q : ez_Q} {h : ez_H} {n mc ms pc q : Nat} {ls : List (Option Value)} {st : List Value} {x : Int32} {off : Int} {tgt : Nat} (hd : decode M.2.1 pc = .ok (.ifCond .gt off, 3)) (ht : (pc : Int) + off = (tgt : Int)) (hq : pc + 3 = q) (kt : 0 < x → E G M d Q h n mc ms tgt ls st) (kf : ¬ 0 < x → E G M d Q h n mc ms q ls st) : E G M d Q h n mc ms pc ls (.int x :: st) := by
  subst hq
  intro p e R s m args below meth c H locs cells slots mt mS la X hR hS hL hc hs
  exact lv_if_gt X.1 X.2.1 hd ht (fun z => kt z p e R s m args below meth c H locs cells slots mt mS la X hR hS hL hc hs) (fun z => kf z p e R s m args below meth c H locs cells slots mt mS la X hR hS hL hc hs)
theorem ez_ifle {G : ez_G} {M : ez_M} {d : Nat} {Q : ez_Q} {h : ez_H} {n mc ms pc q : Nat} {ls : List (Option Value)} {st : List Value} {x : Int32} {off : Int} {tgt : Nat} (hd : decode M.2.1 pc = .ok (.ifCond .le off, 3)) (ht : (pc : Int) + off = (tgt : Int)) (hq : pc + 3 = q) (kt : x ≤ 0 → E G M d Q h n mc ms tgt ls st) (kf : ¬ x ≤ 0 → E G M d Q h n mc ms q ls st) : E G M d Q h n mc ms pc ls (.int x :: st) := by
  subst hq
  intro p e R s m args below meth c H locs cells slots mt mS la X hR hS hL hc hs
  exact lv_if_le X.1 X.2.1 hd ht (fun z => kt z p e R s m args below meth c H locs cells slots mt mS la X hR hS hL hc hs) (fun z => kf z p e R s m args below meth c H locs cells slots mt mS la X hR hS hL hc hs)
theorem ez_icmpeq {G : ez_G} {M : ez_M} {d : Nat} {Q : ez_Q} {h : ez_H} {n mc ms pc q : Nat} {ls : List (Option Value)} {st : List Value} {x y : Int32} {off : Int} {tgt : Nat} (hd : decode M.2.1 pc = .ok (.if_icmp .eq off, 3)) (ht : (pc : Int) + off = (tgt : Int)) (hq : pc + 3 = q) (kt : x = y → E G M d Q h n mc ms tgt ls st) (kf : ¬ x = y → E G M d Q h n mc ms q ls st) : E G M d Q h n mc ms pc ls (.int y :: .int x :: st) := by
  subst hq
  intro p e R s m args below meth c H locs cells slots mt mS la X hR hS hL hc hs
  exact lv_icmp_eq X.1 X.2.1 hd ht (fun z => kt z p e R s m args below meth c H locs cells slots mt mS la X hR hS hL hc hs) (fun z => kf z p e R s m args below meth c H locs cells slots mt mS la X hR hS hL hc hs)
theorem ez_icmpne {G : ez_G} {M : ez_M} {d : Nat} {Q : ez_Q} {h : ez_H} {n mc ms pc q : Nat} {ls : List (Option Value)} {st : List Value} {x y : Int32} {off : Int} {tgt : Nat} (hd : decode M.2.1 pc = .ok (.if_icmp .ne off, 3)) (ht : (pc : Int) + off = (tgt : Int)) (hq : pc + 3 = q) (kt : ¬ x = y → E G M d Q h n mc ms tgt ls st) (kf : x = y → E G M d Q h n mc ms q ls st) : E G M d Q h n mc ms pc ls (.int y :: .int x :: st) := by
  subst hq
  intro p e R s m args below meth c H locs cells slots mt mS la X hR hS hL hc hs
  exact lv_icmp_ne X.1 X.2.1 hd ht (fun z => kt z p e R s m args below meth c H locs cells slots mt mS la X hR hS hL hc hs) (fun z => kf z p e R s m args below meth c H locs cells slots mt mS la X hR hS hL hc hs)
theorem ez_icmplt {G : ez_G} {M : ez_M} {d : Nat} {Q : ez_Q} {h : ez_H} {n mc ms pc q : Nat} {ls : List (Option Value)} {st : List Value} {x y : Int32} {off : Int} {tgt : Nat} (hd : decode M.2.1 pc = .ok (.if_icmp .lt off, 3)) (ht : (pc : Int) + off = (tgt : Int)) (hq : pc + 3 = q) (kt : x < y → E G M d Q h n mc ms tgt ls st) (kf : ¬ x < y → E G M d Q h n mc ms q ls st) : E G M d Q h n mc ms pc ls (.int y :: .int x :: st) := by
  subst hq
  intro p e R s m args below meth c H locs cells slots mt mS la X hR hS hL hc hs
  exact lv_icmp_lt X.1 X.2.1 hd ht (fun z => kt z p e R s m args below meth c H locs cells slots mt mS la X hR hS hL hc hs) (fun z => kf z p e R s m args below meth c H locs cells slots mt mS la X hR hS hL hc hs)
theorem ez_icmpge {G : ez_G} {M : ez_M} {d : Nat} {Q : ez_Q} {h : ez_H} {n mc ms pc q : Nat} {ls : List (Option Value)} {st : List Value} {x y : Int32} {off : Int} {tgt : Nat} (hd : decode M.2.1 pc = .ok (.if_icmp .ge off, 3)) (ht : (pc : Int) + off = (tgt : Int)) (hq : pc + 3 = q) (kt : y ≤ x → E G M d Q h n mc ms tgt ls st) (kf : ¬ y ≤ x → E G M d Q h n mc ms q ls st) : E G M d Q h n mc ms pc ls (.int y :: .int x :: st) := by
  subst hq
  intro p e R s m args below meth c H locs cells slots mt mS la X hR hS hL hc hs
  exact lv_icmp_ge X.1 X.2.1 hd ht (fun z => kt z p e R s m args below meth c H locs cells slots mt mS la X hR hS hL hc hs) (fun z => kf z p e R s m args below meth c H locs cells slots mt mS la X hR hS hL hc hs)
theorem ez_icmpgt {G : ez_G} {M : ez_M} {d : Nat} {Q : ez_Q} {h : ez_H} {n mc ms pc q : Nat} {ls : List (Option Value)} {st : List Value} {x y : Int32} {off : Int} {tgt : Nat} (hd : decode M.2.1 pc = .ok (.if_icmp .gt off, 3)) (ht : (pc : Int) + off = (tgt : Int)) (hq : pc + 3 = q) (kt : y < x → E G M d Q h n mc ms tgt ls st) (kf : ¬ y < x → E G M d Q h n mc ms q ls st) : E G M d Q h n mc ms pc ls (.int y :: .int x :: st) := by
  subst hq
  intro p e R s m args below meth c H locs cells slots mt mS la X hR hS hL hc hs
  exact lv_icmp_gt X.1 X.2.1 hd ht (fun z => kt z p e R s m args below meth c H locs cells slots mt mS la X hR hS hL hc hs) (fun z => kf z p e R s m args below meth c H locs cells slots mt mS la X hR hS hL hc hs)
theorem ez_icmple {G : ez_G} {M : ez_M} {d : Nat} {Q : ez_Q} {h : ez_H} {n mc ms pc q : Nat} {ls : List (Option Value)} {st : List Value} {x y : Int32} {off : Int} {tgt : Nat} (hd : decode M.2.1 pc = .ok (.if_icmp .le off, 3)) (ht : (pc : Int) + off = (tgt : Int)) (hq : pc + 3 = q) (kt : x ≤ y → E G M d Q h n mc ms tgt ls st) (kf : ¬ x ≤ y → E G M d Q h n mc ms q ls st) : E G M d Q h n mc ms pc ls (.int y :: .int x :: st) := by
  subst hq
  intro p e R s m args below meth c H locs cells slots mt mS la X hR hS hL hc hs
  exact lv_icmp_le X.1 X.2.1 hd ht (fun z => kt z p e R s m args below meth c H locs cells slots mt mS la X hR hS hL hc hs) (fun z => kf z p e R s m args below meth c H locs cells slots mt mS la X hR hS hL hc hs)
theorem ez_goto {G : ez_G} {M : ez_M} {d : Nat} {Q : ez_Q} {h : ez_H} {n mc ms pc q : Nat} {ls : List (Option Value)} {st : List Value} {off : Int} (hd : decode M.2.1 pc = .ok (.goto off, 3)) (ht : (pc : Int) + off = (q : Int)) (k : E G M d Q h n mc ms q ls st) : E G M d Q h n mc ms pc ls st := by
  intro p e R s m args below meth c H locs cells slots mt mS la X hR hS hL hc hs
  exact lv_goto X.1 X.2.1 hd ht (k p e R s m args below meth c H locs cells slots mt mS la X hR hS hL hc hs)
theorem ez_tableIn {G : ez_G} {M : ez_M} {d : Nat} {Q : ez_Q} {h : ez_H} {n mc ms pc q : Nat} {ls : List (Option Value)} {st : List Value} {x : Int32} {dflt lo hi : Int} {offs : Array Int} {len : Nat} {off : Int} (hd : decode M.2.1 pc = .ok (.tableswitch dflt lo hi offs, len)) (h1 : ¬ x.toInt < lo) (h2 : ¬ hi < x.toInt) (ho : offs[(x.toInt - lo).toNat]? = some off) (ht : (pc : Int) + off = (q : Int)) (k : E G M d Q h n mc ms q ls st) : E G M d Q h n mc ms pc ls (.int x :: st) := by
  intro p e R s m args below meth c H locs cells slots mt mS la X hR hS hL hc hs
  exact lv_tableIn X.1 X.2.1 hd h1 h2 ho ht (k p e R s m args below meth c H locs cells slots mt mS la X hR hS hL hc hs)
theorem ez_tableOut {G : ez_G} {M : ez_M} {d : Nat} {Q : ez_Q} {h : ez_H} {n mc ms pc q : Nat} {ls : List (Option Value)} {st : List Value} {x : Int32} {dflt lo hi : Int} {offs : Array Int} {len : Nat} (hd : decode M.2.1 pc = .ok (.tableswitch dflt lo hi offs, len)) (h1 : x.toInt < lo ∨ hi < x.toInt) (ht : (pc : Int) + dflt = (q : Int)) (k : E G M d Q h n mc ms q ls st) : E G M d Q h n mc ms pc ls (.int x :: st) := by
  intro p e R s m args below meth c H locs cells slots mt mS la X hR hS hL hc hs
  exact lv_tableOut X.1 X.2.1 hd h1 ht (k p e R s m args below meth c H locs cells slots mt mS la X hR hS hL hc hs)
theorem ez_lookup {G : ez_G} {M : ez_M} {d : Nat} {Q : ez_Q} {h : ez_H} {n mc ms pc q : Nat} {ls : List (Option Value)} {st : List Value} {x : Int32} {dflt : Int} {ps : Array (Int × Int)} {len : Nat} {off : Int} (hd : decode M.2.1 pc = .ok (.lookupswitch dflt ps, len)) (hp : (ps.toList.zip (ps.toList.drop 1)).all (fun (a, next) => a.1 < next.1) = true) (ho : Op.lookupswitch.offset ps.toList dflt x.toInt = off) (ht : (pc : Int) + off = (q : Int)) (k : E G M d Q h n mc ms q ls st) : E G M d Q h n mc ms pc ls (.int x :: st) := by
  intro p e R s m args below meth c H locs cells slots mt mS la X hR hS hL hc hs
  exact lv_lookup X.1 X.2.1 hd hp ho ht (k p e R s m args below meth c H locs cells slots mt mS la X hR hS hL hc hs)
end
section
def ez_cl (ci : Nat) : vw_C := vwCl.getD ci (RX0, TX0, 5)
def ez_tyf (ci : Nat) : Nat → FieldType := match ci with
  | 0 => tyX0
  | 1 => tyX1
  | 2 => tyX2
  | 3 => tyX3
  | 4 => tyX4
  | 5 => tyX5
  | 6 => tyX6
  | 7 => tyX7
  | _ => tyX8
theorem ez_cl_get {ci : Nat} (h : ci < 9) : vwCl[ci]? = some (ez_cl ci) := by
  have h2 : ci < vwCl.length := h
  rw [ez_cl, List.getD_eq_getElem?_getD, List.getElem?_eq_getElem h2]
  rfl
theorem ez_ty_ok {ci : Nat} (h : ci < 9) : ∀ k, k < (ez_cl ci).2.2 → parseFieldDescriptor ((ez_cl ci).2.1 k).2.2.1 = some (ez_tyf ci k) := by
  rcases (show ci = 0 ∨ ci = 1 ∨ ci = 2 ∨ ci = 3 ∨ ci = 4 ∨ ci = 5 ∨ ci = 6 ∨ ci = 7 ∨ ci = 8 by omega) with rfl | rfl | rfl | rfl | rfl | rfl | rfl | rfl | rfl
  · exact tyX0_ok
  · exact tyX1_ok
  · exact tyX2_ok
  · exact tyX3_ok
  · exact tyX4_ok
  · exact tyX5_ok
  · exact tyX6_ok
  · exact tyX7_ok
  · exact tyX8_ok
theorem ez_nm {ci : Nat} (h : ci < 9) : ∀ a, a < (ez_cl ci).2.2 → ∀ b, b < (ez_cl ci).2.2 → a ≠ b → ((ez_cl ci).2.1 a).2.1 ≠ ((ez_cl ci).2.1 b).2.1 := by
  rcases (show ci = 0 ∨ ci = 1 ∨ ci = 2 ∨ ci = 3 ∨ ci = 4 ∨ ci = 5 ∨ ci = 6 ∨ ci = 7 ∨ ci = 8 by omega) with rfl | rfl | rfl | rfl | rfl | rfl | rfl | rfl | rfl
  · exact nmX0
  · exact nmX1
  · exact nmX2
  · exact nmX3
  · exact nmX4
  · exact nmX5
  · exact nmX6
  · exact nmX7
  · exact nmX8
theorem ez_lay0 : ∀ ci, ci < 9 → (u_ws (ez_cl ci).1 (ez_cl ci).2.1 (ez_cl ci).2.2).all (fun w => decide (w ∈ lw_tbl) && goodWord w) = true := by decide +kernel
theorem ez_lay {ci : Nat} (h : ci < 9) {w : Cond} (hw : w ∈ u_ws (ez_cl ci).1 (ez_cl ci).2.1 (ez_cl ci).2.2) : ez_T w := by
  have h1 := List.all_eq_true.mp (ez_lay0 ci h) w hw
  simp only [Bool.and_eq_true, decide_eq_true_eq] at h1
  exact h1
/-- entry idx of class own's pool is the field k of the class number ci -/
def ez_fl (own : String) (idx ci k : Nat) : Prop := ci < 9 ∧ k < (ez_cl ci).2.2 ∧ ez_T (.fieldLink own idx ((ez_cl ci).2.1 k).1 ((ez_cl ci).2.1 k).2.1 ((ez_cl ci).2.1 k).2.2.1)
theorem ez_one {G : ez_G} {h : ez_H} {n a : Nat} {H : Heap} {e : va_E} (hR : ez_R G h n H) (hc : h a = some e) : va_P (ez_D G) vwCl [(ez_ad G a, ez_e G e)] H := by
  intro k q hq
  cases k with
  | zero => cases hq; exact (hR.2.2.2 a e hc).2
  | succ j => simp at hq
theorem ez_getf {G : ez_G} {M : ez_M} {d : Nat} {Q : ez_Q} {h : ez_H} {n mc ms pc q : Nat} {ls : List (Option Value)} {st : List Value} {a idx ci k : Nat} {fs : List Value} {v : Value} (hd : decode M.2.1 pc = .ok (.getfield idx, 3)) (hf : ez_fl M.1.cls idx ci k) (hc0 : h a = some (.inr (ci, fs))) (hv : fs[k]? = some v) (hq : pc + 3 = q) (K : E G M d Q h n mc ms q ls (v :: st)) : E G M d Q h n mc ms pc ls (.ref a :: st) := by
  subst hq
  intro p e R s m args below meth c H locs cells slots mt mS la X hR hS hL hc hs
  obtain ⟨h1, h2, h3⟩ := hf
  exact va_get X.1 X.2.1 (Ts := u_ws (ez_cl ci).1 (ez_cl ci).2.1 (ez_cl ci).2.2) (fun w hw => X.2.2.2.2.2.2.2.2.1.w (ez_lay h1 hw) args) (fun _ h9 => h9) X.2.2.2.1 X.2.2.2.2.2.2.2.2.1.2.1 (ez_one hR hc0) 0 (fs := fs.map (ez_v G)) rfl (ez_cl_get h1) k h2 (X.2.2.2.2.2.2.2.2.1.w h3 args) (fun _ h9 => h9) (by rw [List.getElem?_map, hv]; rfl) hd (K p e R s m args below meth c H locs cells slots mt mS la X hR hS hL hc hs)
theorem ez_put0 {G : ez_G} {M : ez_M} {d : Nat} {Q : ez_Q} {h : ez_H} {n mc ms pc q : Nat} {ls : List (Option Value)} {st : List Value} {a idx ci k : Nat} {fs : List Value} {v : Value} (hd : decode M.2.1 pc = .ok (.putfield idx, 3)) (hf : ez_fl M.1.cls idx ci k) (hfin : ((ez_cl ci).2.1 k).2.2.2 = false) (hn : ∀ G, narrow (ez_tyf ci k) (ez_v G v) = ez_v G v) (hfit : ∀ G, fits (ez_tyf ci k) (ez_v G v) = true) (ha : 0 < a) (hc0 : h a = some (.inr (ci, fs))) (hl : k < fs.length) (hq : pc + 3 = q) (K : E G M d Q (ez_up h a (.inr (ci, fs.set k v))) n mc ms q ls st) : E G M d Q h n mc ms pc ls (v :: .ref a :: st) := by
  subst hq
  intro p e R s m args below meth c H locs cells slots mt mS la X hR hS hL hc hs
  obtain ⟨h1, h2, h3⟩ := hf
  have hts : ∀ w ∈ u_ws (ez_cl ci).1 (ez_cl ci).2.1 (ez_cl ci).2.2, w.before args s = true := fun w hw => X.2.2.2.2.2.2.2.2.1.w (ez_lay h1 hw) args
  have hap := va_apart (D := ez_D G) (own := M.1.cls) hts (fun _ h9 => h9) (ez_tyf ci) (ez_ty_ok h1) (ez_nm h1) X.2.2.2.2.2.2.2.2.1.2.1 (ez_cl_get h1)
  obtain ⟨r, hr1, cell, q1, q2, q3, q4⟩ := (hR.2.2.2 a _ hc0).2
  have hr : r = ez_cl ci := Option.some.inj (hr1.symm.trans (ez_cl_get h1))
  subst hr
  obtain ⟨hSl, hfc, kC, hkC, hkind⟩ := X.2.2.2.2.2.2.2.2.1.2.1.1 ci _ (ez_cl_get h1)
  obtain ⟨cf, kf, fi, f, hi, hsl⟩ := hSl k h2
  have hlay := hts _ (u_in_lay h2)
  unfold u_lay at hlay
  rw [if_neg (by rw [hfin]; decide)] at hlay
  have hst := (u_facts hfc hkC (u_lays hts (fun _ h9 => h9) h2) hi).1
  have h6 := u_store hfc hkC hkind hlay hi (ez_ty_ok h1 k h2) (hn G) (hfit G)
  refine W.putK X.1 X.2.1 (f := f) ⟨X.2.2.2.1, X.2.2.2.2.2.2.2.2.1.w h3 args, ⟨_, _, _, hi⟩, hst⟩ (by rw [q2]; exact h6) q1 q3 (by rw [hsl]; exact k2_hasslot (q4 k h2)) rfl rfl hd fun H' e1 e2 e3 => ?_
  rw [hsl] at e1 ⊢
  refine K p e R s m args below meth c H' _ cells slots mt mS la X (hR.set hc0 (⟨_, ez_cl_get h1, t_OB.to (V := updV (vp_V (fs.map (ez_v G))) k (ez_v G v)) ⟨_, e1, q2, q3, t_set q4 hap h2 _⟩ (fun j _ => ?_)⟩) e2 e3) (hS.put e2 e3 (ez_ad_A ha)) hL hc hs
  show updV (vp_V (fs.map (ez_v G))) k (ez_v G v) j = vp_V ((fs.set k v).map (ez_v G)) j
  rw [vp_updV_set (by simpa using hl), List.map_set]
theorem ez_putF0 {G : ez_G} {M : ez_M} {d : Nat} {Q : ez_Q} {h : ez_H} {n mc ms pc q : Nat} {ls : List (Option Value)} {st : List Value} {a idx ci k : Nat} {fs : List Value} {v : Value} (hd : decode M.2.1 pc = .ok (.putfield idx, 3)) (hf : ez_fl M.1.cls idx ci k) (hfin : ((ez_cl ci).2.1 k).2.2.2 = true) (hini : M.1.name = "<init>") (hdecl : ((ez_cl ci).2.1 k).1 = M.1.cls) (hn : ∀ G, narrow (ez_tyf ci k) (ez_v G v) = ez_v G v) (hfit : ∀ G, fits (ez_tyf ci k) (ez_v G v) = true) (ha : 0 < a) (hc0 : h a = some (.inr (ci, fs))) (hl : k < fs.length) (hq : pc + 3 = q) (K : E G M d Q (ez_up h a (.inr (ci, fs.set k v))) n mc ms q ls st) : E G M d Q h n mc ms pc ls (v :: .ref a :: st) := by
  subst hq
  intro p e R s m args below meth c H locs cells slots mt mS la X hR hS hL hc hs
  obtain ⟨h1, h2, h3⟩ := hf
  have hts : ∀ w ∈ u_ws (ez_cl ci).1 (ez_cl ci).2.1 (ez_cl ci).2.2, w.before args s = true := fun w hw => X.2.2.2.2.2.2.2.2.1.w (ez_lay h1 hw) args
  have hap := va_apart (D := ez_D G) (own := M.1.cls) hts (fun _ h9 => h9) (ez_tyf ci) (ez_ty_ok h1) (ez_nm h1) X.2.2.2.2.2.2.2.2.1.2.1 (ez_cl_get h1)
  obtain ⟨r, hr1, cell, q1, q2, q3, q4⟩ := (hR.2.2.2 a _ hc0).2
  have hr : r = ez_cl ci := Option.some.inj (hr1.symm.trans (ez_cl_get h1))
  subst hr
  obtain ⟨hSl, hfc, kC, hkC, hkind⟩ := X.2.2.2.2.2.2.2.2.1.2.1.1 ci _ (ez_cl_get h1)
  obtain ⟨cf, kf, fi, f, hi, hsl⟩ := hSl k h2
  have hlay := hts _ (u_in_lay h2)
  unfold u_lay at hlay
  rw [if_pos hfin] at hlay
  have hst := (u_facts hfc hkC (u_lays hts (fun _ h9 => h9) h2) hi).1
  have hcf : m.cls = cf := by
    obtain ⟨_, _, c', _, _, _, -, -, hf', -, -, -, hown2, -⟩ := Cond.laysFinal_spec hlay
    have e1 : c' = cf := by have := hi.symm.trans hf'; simp at this; exact this.1.symm
    rw [hdecl] at hown2
    rw [← e1]; exact Option.some.inj (X.2.2.2.1.symm.trans hown2)
  have h6 := u_fits hfc hkC hkind (Or.inr hlay) hi (ez_ty_ok h1 k h2) (hn G) (hfit G)
  refine W.putFinK X.1 X.2.1 X.2.2.2.1 (X.2.2.2.2.2.2.2.2.1.w h3 args) hi hst hcf (X.2.2.2.2.2.2.1.trans hini) (by rw [q2]; exact h6) q1 q3 (by rw [hsl]; exact k2_hasslot (q4 k h2)) rfl rfl hd fun H' e1 e2 e3 => ?_
  rw [hsl] at e1 ⊢
  refine K p e R s m args below meth c H' _ cells slots mt mS la X (hR.set hc0 (⟨_, ez_cl_get h1, t_OB.to (V := updV (vp_V (fs.map (ez_v G))) k (ez_v G v)) ⟨_, e1, q2, q3, t_set q4 hap h2 _⟩ (fun j _ => ?_)⟩) e2 e3) (hS.put e2 e3 (ez_ad_A ha)) hL hc hs
  show updV (vp_V (fs.map (ez_v G))) k (ez_v G v) j = vp_V ((fs.set k v).map (ez_v G)) j
  rw [vp_updV_set (by simpa using hl), List.map_set]
theorem ez_iald {G : ez_G} {M : ez_M} {d : Nat} {Q : ez_Q} {h : ez_H} {n mc ms pc q : Nat} {ls : List (Option Value)} {st : List Value} {a len j : Nat} {f : Nat → Int32} {i : Int32} (hd : decode M.2.1 pc = .ok (.iaload, 1)) (hc0 : h a = some (.inl (0, len, .inl f))) (hi : i = nI j) (hj : j < len) (hlen : len < 2 ^ 31) (hq : pc + 1 = q) (K : E G M d Q h n mc ms q ls (.int (f j) :: st)) : E G M d Q h n mc ms pc ls (.int i :: .ref a :: st) := by
  subst hq; subst hi
  intro p e R s m args below meth c H locs cells slots mt mS la X hR hS hL hc hs
  refine va_iald X.1 X.2.1 X.2.2.2.2.2.2.2.2.1.2.1 (ez_one hR hc0) 0 0 (cA := ez_ca G 0) (n := len) (f := f) rfl rfl (vp_in_nI hj hlen) hd ?_
  rw [nI_clamp (by omega)]
  exact K p e R s m args below meth c H locs cells slots mt mS la X hR hS hL hc hs
theorem ez_cald {G : ez_G} {M : ez_M} {d : Nat} {Q : ez_Q} {h : ez_H} {n mc ms pc q : Nat} {ls : List (Option Value)} {st : List Value} {a len j : Nat} {f : Nat → Int32} {i : Int32} (hd : decode M.2.1 pc = .ok (.caload, 1)) (hc0 : h a = some (.inl (1, len, .inl f))) (hi : i = nI j) (hj : j < len) (hlen : len < 2 ^ 31) (hq : pc + 1 = q) (K : E G M d Q h n mc ms q ls (.int (f j) :: st)) : E G M d Q h n mc ms pc ls (.int i :: .ref a :: st) := by
  subst hq; subst hi
  intro p e R s m args below meth c H locs cells slots mt mS la X hR hS hL hc hs
  refine va_cald X.1 X.2.1 X.2.2.2.2.2.2.2.2.1.2.1 (ez_one hR hc0) 0 1 (cA := ez_ca G 1) (n := len) (f := f) rfl rfl (vp_in_nI hj hlen) hd ?_
  rw [nI_clamp (by omega)]
  exact K p e R s m args below meth c H locs cells slots mt mS la X hR hS hL hc hs
theorem ez_lald {G : ez_G} {M : ez_M} {d : Nat} {Q : ez_Q} {h : ez_H} {n mc ms pc q : Nat} {ls : List (Option Value)} {st : List Value} {a len j : Nat} {f : Nat → Int64} {i : Int32} (hd : decode M.2.1 pc = .ok (.laload, 1)) (hc0 : h a = some (.inl (2, len, .inr (.inl f)))) (hi : i = nI j) (hj : j < len) (hlen : len < 2 ^ 31) (hq : pc + 1 = q) (K : E G M d Q h n mc ms q ls (.long (f j) :: st)) : E G M d Q h n mc ms pc ls (.int i :: .ref a :: st) := by
  subst hq; subst hi
  intro p e R s m args below meth c H locs cells slots mt mS la X hR hS hL hc hs
  refine va_lald X.1 X.2.1 X.2.2.2.2.2.2.2.2.1.2.1 (ez_one hR hc0) 0 2 (cA := ez_ca G 2) (n := len) (f := f) rfl rfl (vp_in_nI hj hlen) hd ?_
  rw [nI_clamp (by omega)]
  exact K p e R s m args below meth c H locs cells slots mt mS la X hR hS hL hc hs
theorem ez_aald {G : ez_G} {M : ez_M} {d : Nat} {Q : ez_Q} {h : ez_H} {n mc ms pc q : Nat} {ls : List (Option Value)} {st : List Value} {a len j r : Nat} {f : Nat → Option Nat} {i : Int32} (hd : decode M.2.1 pc = .ok (.aaload, 1)) (hc0 : h a = some (.inl (3, len, .inr (.inr (.inr (.inr f)))))) (hi : i = nI j) (hj : j < len) (hlen : len < 2 ^ 31) (hr : f j = some r) (hq : pc + 1 = q) (K : E G M d Q h n mc ms q ls (.ref r :: st)) : E G M d Q h n mc ms pc ls (.int i :: .ref a :: st) := by
  subst hq; subst hi
  intro p e R s m args below meth c H locs cells slots mt mS la X hR hS hL hc hs
  refine va_aldq X.1 X.2.1 X.2.2.2.2.2.2.2.2.1.2.1 (ez_one hR hc0) 0 3 (cA := ez_ca G 3) (n := len) (f := fun j => (f j).map (ez_ad G)) rfl rfl (vp_in_nI hj hlen) hd ?_
  rw [nI_clamp (by omega), hr]
  exact K p e R s m args below meth c H locs cells slots mt mS la X hR hS hL hc hs
theorem ez_alen {G : ez_G} {M : ez_M} {d : Nat} {Q : ez_Q} {h : ez_H} {n mc ms pc q : Nat} {ls : List (Option Value)} {st : List Value} {a len : Nat} {f : Nat → Int32} (hd : decode M.2.1 pc = .ok (.arraylength, 1)) (hc0 : h a = some (.inl (0, len, .inl f))) (hq : pc + 1 = q) (K : E G M d Q h n mc ms q ls (.int (nI len) :: st)) : E G M d Q h n mc ms pc ls (.ref a :: st) := by
  subst hq
  intro p e R s m args below meth c H locs cells slots mt mS la X hR hS hL hc hs
  refine W.alen (n := nI len) X.1 X.2.1 (ez_one hR hc0 0 _ rfl) ((X.2.2.2.2.2.2.2.2.1.2.1.2 0 _ rfl).1 len (fun j => .int (f j))) (by show (arrV _ _ _).slots.size.toInt32 = _; rw [arrV_size]; rfl) rfl rfl hd ?_
  exact K p e R s m args below meth c H locs cells slots mt mS la X hR hS hL hc hs
theorem ez_iast {G : ez_G} {M : ez_M} {d : Nat} {Q : ez_Q} {h : ez_H} {n mc ms pc q : Nat} {ls : List (Option Value)} {st : List Value} {a len j : Nat} {f : Nat → Int32} {i : Int32} {x : Int32} (hd : decode M.2.1 pc = .ok (.iastore, 1)) (ha : 0 < a) (hc0 : h a = some (.inl (0, len, .inl f))) (hi : i = nI j) (hj : j < len) (hlen : len < 2 ^ 31) (hq : pc + 1 = q) (K : E G M d Q (ez_up h a (.inl (0, len, .inl (upd f j x)))) n mc ms q ls st) : E G M d Q h n mc ms pc ls (.int x :: .int i :: .ref a :: st) := by
  subst hq; subst hi
  intro p e R s m args below meth c H locs cells slots mt mS la X hR hS hL hc hs
  have hk := nI_clamp (n := j) (by omega)
  refine W.iast X.1 X.2.1 (ez_one hR hc0 0 _ rfl) ((X.2.2.2.2.2.2.2.2.1.2.1.2 0 _ rfl).1 len (fun j => .int (f j))) (fun q => by cases q) (by show ¬ (nI j < 0 ∨ (arrV _ _ _).slots.size ≤ _); rw [arrV_size]; exact vp_in_nI hj hlen) rfl rfl hd fun H1 e1 z oq => ?_
  refine K p e R s m args below meth c H1 _ cells slots mt mS la X (hR.set hc0 ?_ z oq) (hS.put z oq (ez_ad_A ha)) hL hc hs
  show H1[ez_ad G a]? = some (vp_cell _ _)
  rw [e1]
  show some ((vp_cell (ez_ca G 0) (len, .inl f)).setSlot _ _) = _
  rw [vp_cell_i, vp_cell_i, arrV_store, hk]
  congr 2
  funext y
  by_cases hy : y = j
  · subst hy
    simp [updV, upd]
  · simp [updV, upd, hy]
theorem ez_last {G : ez_G} {M : ez_M} {d : Nat} {Q : ez_Q} {h : ez_H} {n mc ms pc q : Nat} {ls : List (Option Value)} {st : List Value} {a len j : Nat} {f : Nat → Int64} {i : Int32} {x : Int64} (hd : decode M.2.1 pc = .ok (.lastore, 1)) (ha : 0 < a) (hc0 : h a = some (.inl (2, len, .inr (.inl f)))) (hi : i = nI j) (hj : j < len) (hlen : len < 2 ^ 31) (hq : pc + 1 = q) (K : E G M d Q (ez_up h a (.inl (2, len, .inr (.inl (vp_updL f j x))))) n mc ms q ls st) : E G M d Q h n mc ms pc ls (.long x :: .int i :: .ref a :: st) := by
  subst hq; subst hi
  intro p e R s m args below meth c H locs cells slots mt mS la X hR hS hL hc hs
  have hk := nI_clamp (n := j) (by omega)
  refine W.last X.1 X.2.1 (ez_one hR hc0 0 _ rfl) ((X.2.2.2.2.2.2.2.2.1.2.1.2 2 _ rfl).1 len (fun j => .long (f j))) (fun q => by cases q) (by show ¬ (nI j < 0 ∨ (arrV _ _ _).slots.size ≤ _); rw [arrV_size]; exact vp_in_nI hj hlen) rfl rfl hd fun H1 e1 z oq => ?_
  refine K p e R s m args below meth c H1 _ cells slots mt mS la X (hR.set hc0 ?_ z oq) (hS.put z oq (ez_ad_A ha)) hL hc hs
  show H1[ez_ad G a]? = some (vp_cell _ _)
  rw [e1]
  show some ((vp_cell (ez_ca G 2) (len, .inr (.inl f))).setSlot _ _) = _
  rw [vp_cell_l, vp_cell_l, arrV_store, hk]
  congr 2
  funext y
  by_cases hy : y = j
  · subst hy
    simp [updV, vp_updL]
  · simp [updV, vp_updL, hy]
theorem ez_nar (c : Nat) (h : c < 65536) : narrow .char (.int (nI c)) = .int (nI c) := by
  show Value.int ((nI c).toUInt32.toUInt16.toUInt32.toInt32) = .int (nI c)
  congr 1
  apply Int32.toBitVec_inj.mp
  show ((BitVec.ofNat 32 c).setWidth 16).setWidth 32 = BitVec.ofNat 32 c
  apply BitVec.eq_of_toNat_eq
  simp only [BitVec.toNat_setWidth, BitVec.toNat_ofNat]
  omega
theorem ez_cast {G : ez_G} {M : ez_M} {d : Nat} {Q : ez_Q} {h : ez_H} {n mc ms pc q : Nat} {ls : List (Option Value)} {st : List Value} {a len j c0 : Nat} {f : Nat → Int32} {i x : Int32} (hd : decode M.2.1 pc = .ok (.castore, 1)) (ha : 0 < a) (hc0 : h a = some (.inl (1, len, .inl f))) (hi : i = nI j) (hj : j < len) (hlen : len < 2 ^ 31) (hx : x = nI c0) (hx2 : c0 < 65536) (hq : pc + 1 = q) (K : E G M d Q (ez_up h a (.inl (1, len, .inl (upd f j x)))) n mc ms q ls st) : E G M d Q h n mc ms pc ls (.int x :: .int i :: .ref a :: st) := by
  subst hq; subst hi; subst hx
  intro p e R s m args below meth c H locs cells slots mt mS la X hR hS hL hc hs
  have hk := nI_clamp (n := j) (by omega)
  refine W.cast X.1 X.2.1 (ez_one hR hc0 0 _ rfl) ((X.2.2.2.2.2.2.2.2.1.2.1.2 1 _ rfl).1 len (fun j => .int (f j))) (fun q => by cases q) (by show ¬ (nI j < 0 ∨ (arrV _ _ _).slots.size ≤ _); rw [arrV_size]; exact vp_in_nI hj hlen) rfl rfl hd fun H1 e1 z oq => ?_
  refine K p e R s m args below meth c H1 _ cells slots mt mS la X (hR.set hc0 ?_ z oq) (hS.put z oq (ez_ad_A ha)) hL hc hs
  show H1[ez_ad G a]? = some (vp_cell _ _)
  rw [e1, ez_nar c0 hx2]
  show some ((vp_cell (ez_ca G 1) (len, .inl f)).setSlot _ _) = _
  rw [vp_cell_i, vp_cell_i, arrV_store, hk]
  congr 2
  funext y
  by_cases hy : y = j
  · subst hy
    simp [updV, upd]
  · simp [updV, upd, hy]
theorem ez_aast {G : ez_G} {M : ez_M} {d : Nat} {Q : ez_Q} {h : ez_H} {n mc ms pc q : Nat} {ls : List (Option Value)} {st : List Value} {a len j v : Nat} {f : Nat → Option Nat} {fs : List Value} {i : Int32} (hd : decode M.2.1 pc = .ok (.aastore, 1)) (ha : 0 < a) (hc0 : h a = some (.inl (3, len, .inr (.inr (.inr (.inr f)))))) (hv : h v = some (.inr (3, fs))) (hi : i = nI j) (hj : j < len) (hlen : len < 2 ^ 31) (hq : pc + 1 = q) (K : E G M d Q (ez_up h a (.inl (3, len, .inr (.inr (.inr (.inr (va_up f j (some v)))))))) n mc ms q ls st) : E G M d Q h n mc ms pc ls (.ref v :: .int i :: .ref a :: st) := by
  subst hq; subst hi
  intro p e R s m args below meth c H locs cells slots mt mS la X hR hS hL hc hs
  have hk := nI_clamp (n := j) (by omega)
  have hin := vp_in_nI hj hlen
  obtain ⟨r', hr', cellV, g1, g2, g3, -⟩ := ez_one hR hv 0 _ rfl
  have hcls := (X.2.2.2.2.2.2.2.2.1.2.1.1 3 (ez_cl 3) (ez_cl_get (by decide))).2
  obtain ⟨kA, comp, k1, k2, k3, -⟩ := (X.2.2.2.2.2.2.2.2.1.2.1.2 3 _ rfl).2
  have hcomp : comp = (ez_D G).1 3 := Option.some.inj (k3.symm.trans hcls.1)
  subst hcomp
  obtain ⟨kC, hkC, -⟩ := hcls.2
  refine W.aast X.1 X.2.1 (ez_one hR hc0 0 _ rfl) (fun q h => by cases h) (fun h => by cases h) k1 k2 rfl hkC ⟨fun q => hin (Or.inl q), by show _ < (arrV _ _ _).slots.size; rw [arrV_size, hk]; exact hj⟩ g1 (fun q h => by rw [g3] at h; cases h) (by rw [g2]; exact hkC) (by rw [g2]; exact va_assign hcls) rfl rfl hd fun H1 e1 z oq => ?_
  refine K p e R s m args below meth c H1 _ cells slots mt mS la X (hR.set hc0 ?_ z oq) (hS.put z oq (ez_ad_A ha)) hL hc hs
  show H1[ez_ad G a]? = some (vp_cell _ _)
  rw [e1]
  show some ((vp_cell (ez_ca G 3) (len, .inr (.inr (.inr (.inr (fun j => (f j).map (ez_ad G))))))).setSlot _ _) = some (vp_cell (ez_ca G 3) (len, .inr (.inr (.inr (.inr (fun z => (va_up f j (some v) z).map (ez_ad G)))))))
  rw [vp_cell_q, vp_cell_q, arrV_store, hk]
  congr 2
  funext y
  by_cases hy : y = j
  · subst hy
    simp [updV, va_up, va_rf]
  · simp [updV, va_up, hy]
theorem ez_new {G : ez_G} {M : ez_M} {d : Nat} {Q : ez_Q} {h : ez_H} {n mc ms pc q : Nat} {ls : List (Option Value)} {st : List Value} {idx ci N : Nat} {fs : List Value} (hd : decode M.2.1 pc = .ok (.new idx, 3)) (hci : ci < 9) (hk : ez_T (.classLink M.1.cls idx (ez_cl ci).1)) (hi : ez_T (.instantiable (ez_cl ci).1 (ez_cl ci).2.2)) (hini : ez_T (.initialized (ez_cl ci).1)) (hN : (ez_cl ci).2.2 = N) (hfs : ∀ G, ∀ j, j < (ez_cl ci).2.2 → defaultValue (ez_tyf ci j) = vp_V (fs.map (ez_v G)) j) (hq : pc + 3 = q) (K : E G M d Q (ez_up h n (.inr (ci, fs))) (n + 1) mc ms q ls (.ref n :: st)) : E G M d Q h n (mc + 1) (ms + N) pc ls st := by
  subst hq; subst hN
  intro p e R s m args below meth c H locs cells slots mt mS la X hR hS hL hc hs
  have hts : ∀ w ∈ u_ws (ez_cl ci).1 (ez_cl ci).2.1 (ez_cl ci).2.2, w.before args s = true := fun w hw => X.2.2.2.2.2.2.2.2.1.w (ez_lay hci hw) args
  have hKn := X.2.2.2.2.2.2.2.2.1.2.1.1 ci _ (ez_cl_get hci)
  have hsz := hR.size
  refine W.newcK X.1 X.2.1 X.2.2.2.1 (X.2.2.2.2.2.2.2.2.1.w hk args) (X.2.2.2.2.2.2.2.2.1.w hi args) (X.2.2.2.2.2.2.2.2.1.w hini args) rfl hd (by omega) (by omega) hKn.2.1 hsz fun H1 kC hkC e1 z1 o1 => ?_
  refine K p e R s m args below meth c H1 locs (cells + 1) (slots + _) mt mS la X (hR.push ?_ (by rw [z1, hsz]) (fun y hy => o1 y (by rw [← hsz]; exact hy))) ⟨Nat.le_trans hS.1 (by omega), fun x h1 h2 => (o1 x (by have := hS.1; omega)).trans (hS.2.1 x h1 h2), hS.2.2⟩ hL (by omega) (by omega)
  exact ⟨_, ez_cl_get hci, (u_born (ez_tyf ci) hts (fun _ h9 => h9) hKn hkC e1 (ez_ty_ok hci)).to (hfs G)⟩
theorem ez_newc {G : ez_G} {M : ez_M} {d : Nat} {Q : ez_Q} {h : ez_H} {n mc ms pc q : Nat} {ls : List (Option Value)} {st : List Value} {at_ : ArrayType} {len cA : Nat} {ty : FieldType} {i : Int32} {x : va_E} (hd : decode M.2.1 pc = .ok (.newarray at_, 2)) (hty : newarray.typeOf at_ = ty) (harr : ez_T (.arrayClass ty)) (hA : ∀ G, (ez_ca G cA, ty) ∈ ez_tys G) (hx : ∀ G H, H[ez_ad G n]? = some (arrV (ez_ca G cA) len (fun _ => defaultValue ty)) → va_at (ez_D G) vwCl (ez_ad G n, ez_e G x) H) (hprim : ty.isReference = false) (hi : i = nI len) (hlen : len < 100000) (hb : componentBytes ty ≤ 8) (hq : pc + 2 = q) (K : E G M d Q (ez_up h n x) (n + 1) mc ms q ls (.ref n :: st)) : E G M d Q h n (mc + 1) (ms + len) pc ls (.int i :: st) := by
  subst hq; subst hi; subst hty
  intro p e R s m args below meth c H locs cells slots mt mS la X hR hS hL hc hs
  have hsz := hR.size
  refine va_newaK X.1 X.2.1 (X.2.2.2.2.2.2.2.2.1.w harr args) rfl hd rfl (nI_pos (by omega)) (nI_clamp (by omega)) (by have := Nat.mul_le_mul (Nat.le_of_lt hlen) hb; omega) (by omega) (by omega) hsz fun H1 cB e1 z1 o1 hAr hNm => ?_
  obtain ⟨kk, hkk⟩ := List.getElem?_of_mem (hA G)
  have hB : cB = ez_ca G cA := by
    have h2 := (X.2.2.2.2.2.2.2.2.1.2.1.2 kk _ hkk).2
    have h3 : s.vm.findClass ("[" ++ (newarray.typeOf at_).toString) = some (ez_ca G cA) := by
      cases at_ <;> exact h2
    exact Option.some.inj (hNm.symm.trans h3)
  subst hB
  refine K p e R s m args below meth c H1 locs (cells + 1) (slots + _) mt mS la X (hR.push (hx G H1 e1) (by rw [z1, hsz]) (fun y hy => o1 y (by rw [← hsz]; exact hy))) ⟨Nat.le_trans hS.1 (by omega), fun x h1 h2 => (o1 x (by have := hS.1; omega)).trans (hS.2.1 x h1 h2), hS.2.2⟩ hL (by omega) (by omega)
theorem ez_newi {G : ez_G} {M : ez_M} {d : Nat} {Q : ez_Q} {h : ez_H} {n mc ms pc q : Nat} {ls : List (Option Value)} {st : List Value} {len : Nat} {i : Int32} (hd : decode M.2.1 pc = .ok (.newarray .int, 2)) (harr : ez_T (.arrayClass .int)) (hi : i = nI len) (hlen : len < 100000) (hq : pc + 2 = q) (K : E G M d Q (ez_up h n (.inl (0, len, .inl (fun _ => 0)))) (n + 1) mc ms q ls (.ref n :: st)) : E G M d Q h n (mc + 1) (ms + len) pc ls (.int i :: st) :=
  ez_newc (x := .inl (0, len, .inl (fun _ => 0))) (ty := .int) (cA := 0) hd rfl harr (fun _ => List.mem_cons_self) (fun _ _ h => h) rfl hi hlen (by decide) hq K
theorem ez_newch {G : ez_G} {M : ez_M} {d : Nat} {Q : ez_Q} {h : ez_H} {n mc ms pc q : Nat} {ls : List (Option Value)} {st : List Value} {len : Nat} {i : Int32} (hd : decode M.2.1 pc = .ok (.newarray .char, 2)) (harr : ez_T (.arrayClass .char)) (hi : i = nI len) (hlen : len < 100000) (hq : pc + 2 = q) (K : E G M d Q (ez_up h n (.inl (1, len, .inl (fun _ => 0)))) (n + 1) mc ms q ls (.ref n :: st)) : E G M d Q h n (mc + 1) (ms + len) pc ls (.int i :: st) :=
  ez_newc (x := .inl (1, len, .inl (fun _ => 0))) (ty := .char) (cA := 1) hd rfl harr (fun _ => List.mem_cons_of_mem _ List.mem_cons_self) (fun _ _ h => h) rfl hi hlen (by decide) hq K
theorem ez_newl {G : ez_G} {M : ez_M} {d : Nat} {Q : ez_Q} {h : ez_H} {n mc ms pc q : Nat} {ls : List (Option Value)} {st : List Value} {len : Nat} {i : Int32} (hd : decode M.2.1 pc = .ok (.newarray .long, 2)) (harr : ez_T (.arrayClass .long)) (hi : i = nI len) (hlen : len < 100000) (hq : pc + 2 = q) (K : E G M d Q (ez_up h n (.inl (2, len, .inr (.inl (fun _ => 0))))) (n + 1) mc ms q ls (.ref n :: st)) : E G M d Q h n (mc + 1) (ms + len) pc ls (.int i :: st) :=
  ez_newc (x := .inl (2, len, .inr (.inl (fun _ => 0)))) (ty := .long) (cA := 2) hd rfl harr (fun _ => List.mem_cons_of_mem _ (List.mem_cons_of_mem _ List.mem_cons_self)) (fun _ _ h => h) rfl hi hlen (by decide) hq K
theorem ez_anew {G : ez_G} {M : ez_M} {d : Nat} {Q : ez_Q} {h : ez_H} {n mc ms pc q : Nat} {ls : List (Option Value)} {st : List Value} {idx len : Nat} {i : Int32} (hd : decode M.2.1 pc = .ok (.anewarray idx, 3)) (hk : ez_T (.classLink M.1.cls idx "FutureWishes$State")) (hover : ez_T (.arrayOver (.object "FutureWishes$State"))) (hi : i = nI len) (hlen : len < 100000) (hq : pc + 3 = q) (K : E G M d Q (ez_up h n (.inl (3, len, .inr (.inr (.inr (.inr (fun _ => none))))))) (n + 1) mc ms q ls (.ref n :: st)) : E G M d Q h n (mc + 1) (ms + len) pc ls (.int i :: st) := by
  subst hq; subst hi
  intro p e R s m args below meth c H locs cells slots mt mS la X hR hS hL hc hs
  have hsz := hR.size
  have hcl := nI_clamp (n := len) (by omega)
  refine W.anew X.1 X.2.1 X.2.2.2.1 (X.2.2.2.2.2.2.2.2.1.w hk args) (X.2.2.2.2.2.2.2.2.1.w hover args) rfl hd rfl (nI_pos (by omega)) (by rw [hcl]; omega) (by omega) (by rw [hcl]; omega) fun cA kA comp f1 f2 f3 f4 => ?_
  rw [hcl]
  have hB : cA = ez_ca G 3 := by
    obtain ⟨_, _, -, -, -, h4⟩ := (X.2.2.2.2.2.2.2.2.1.2.1.2 3 _ rfl).2
    exact Option.some.inj (f1.symm.trans h4)
  subst hB
  have z1 : (H.push ({ cls := ez_ca G 3, slots := Array.replicate len .null, vm := .none } : Cell)).size = H.size + 1 := Array.size_push ..
  have e1 : (H.push ({ cls := ez_ca G 3, slots := Array.replicate len .null, vm := .none } : Cell))[H.size]? = some (arrV (ez_ca G 3) len (fun _ => .null)) := by rw [Array.getElem?_push_size, ← arrV_new]
  have o1 : ∀ y : Nat, y < H.size → (H.push ({ cls := ez_ca G 3, slots := Array.replicate len .null, vm := .none } : Cell))[y]? = H[y]? := fun y hy => by rw [Array.getElem?_push, if_neg (Nat.ne_of_lt hy)]
  rw [hsz] at e1 ⊢
  refine K p e R s m args below meth c _ locs (cells + 1) (slots + _) mt mS la X (hR.push e1 z1 o1) ⟨Nat.le_trans hS.1 (by omega), fun x h1 h2 => (o1 x (by have := hS.1; omega)).trans (hS.2.1 x h1 h2), hS.2.2⟩ hL (by omega) (by omega)
theorem ez_ldc {G : ez_G} {M : ez_M} {d : Nat} {Q : ez_Q} {h : ez_H} {n mc ms pc q : Nat} {ls : List (Option Value)} {st : List Value} {idx : Nat} {v : Int32} (hd : decode M.2.1 pc = .ok (.ldc idx, 2)) (hk : ez_T (.constant M.1.cls idx v)) (hq : pc + 2 = q) (K : E G M d Q h n mc ms q ls (.int v :: st)) : E G M d Q h n mc ms pc ls st := by
  subst hq
  intro p e R s m args below meth c H locs cells slots mt mS la X hR hS hL hc hs
  exact lv_ldc X.1 X.2.1 X.2.2.2.1 (X.2.2.2.2.2.2.2.2.1.w hk args) hd (K p e R s m args below meth c H locs cells slots mt mS la X hR hS hL hc hs)
theorem ez_ldcw {G : ez_G} {M : ez_M} {d : Nat} {Q : ez_Q} {h : ez_H} {n mc ms pc q : Nat} {ls : List (Option Value)} {st : List Value} {idx : Nat} {v : Int32} (hd : decode M.2.1 pc = .ok (.ldc_w idx, 3)) (hk : ez_T (.constant M.1.cls idx v)) (hq : pc + 3 = q) (K : E G M d Q h n mc ms q ls (.int v :: st)) : E G M d Q h n mc ms pc ls st := by
  subst hq
  intro p e R s m args below meth c H locs cells slots mt mS la X hR hS hL hc hs
  exact lv_ldcw X.1 X.2.1 X.2.2.2.1 (X.2.2.2.2.2.2.2.2.1.w hk args) hd (K p e R s m args below meth c H locs cells slots mt mS la X hR hS hL hc hs)
theorem ez_ldc2 {G : ez_G} {M : ez_M} {d : Nat} {Q : ez_Q} {h : ez_H} {n mc ms pc q : Nat} {ls : List (Option Value)} {st : List Value} {idx : Nat} {v : Int64} (hd : decode M.2.1 pc = .ok (.ldc2_w idx, 3)) (hk : ez_T (.constantLong M.1.cls idx v)) (hq : pc + 3 = q) (K : E G M d Q h n mc ms q ls (.long v :: st)) : E G M d Q h n mc ms pc ls st := by
  subst hq
  intro p e R s m args below meth c H locs cells slots mt mS la X hR hS hL hc hs
  exact lv_ldc2 X.1 X.2.1 X.2.2.2.1 (X.2.2.2.2.2.2.2.2.1.w hk args) hd (K p e R s m args below meth c H locs cells slots mt mS la X hR hS hL hc hs)
theorem ez_ldc2d {G : ez_G} {M : ez_M} {d : Nat} {Q : ez_Q} {h : ez_H} {n mc ms pc q : Nat} {ls : List (Option Value)} {st : List Value} {idx : Nat} {v : UInt64} (hd : decode M.2.1 pc = .ok (.ldc2_w idx, 3)) (hk : ez_T (.constantDouble M.1.cls idx v)) (hq : pc + 3 = q) (K : E G M d Q h n mc ms q ls (.double v :: st)) : E G M d Q h n mc ms pc ls st := by
  subst hq
  intro p e R s m args below meth c H locs cells slots mt mS la X hR hS hL hc hs
  exact lv_ldc2d X.1 X.2.1 X.2.2.2.1 (X.2.2.2.2.2.2.2.2.1.w hk args) hd (K p e R s m args below meth c H locs cells slots mt mS la X hR hS hL hc hs)
theorem ez_objInit {G : ez_G} {M : ez_M} {d : Nat} {Q : ez_Q} {h : ez_H} {n mc ms pc q : Nat} {ls : List (Option Value)} {st : List Value} {idx a : Nat} (hd : decode M.2.1 pc = .ok (.invokespecial idx, 3)) (hk : ez_T (.methodLink M.1.cls idx objectInit)) (hk2 : ez_T (.instanceMethod objectInit)) (hk3 : ez_T (.code objectInit ⟨#[0xb1]⟩ 1 none)) (hrm : (st.map fun v => v.category).sum ≤ 8) (hq : pc + 3 = q) (K : E G M (d + 1) Q h n mc ms q ls st) : E G M (d + 1) Q h n mc ms pc ls (.ref a :: st) := by
  subst hq
  intro p e R s m args below meth c H locs cells slots mt mS la X hR hS hL hc hs
  refine W.objInit X.1 X.2.1 X.2.2.2.1 (X.2.2.2.2.2.2.2.2.1.w hk args) (X.2.2.2.2.2.2.2.2.1.w hk2 args) (X.2.2.2.2.2.2.2.2.1.w hk3 args) rfl (hL.1.trans X.2.2.2.2.2.1.symm) rfl hd (by have := X.2.2.2.2.2.2.2.2.2.1; omega) ?_ (W.eq rfl (K p e R s m args below meth c H locs cells slots mt mS la X hR hS hL hc hs))
  have := X.2.2.2.2.2.2.2.2.2.2.1
  have h9 := ez_st_cat G st
  show 2 * 0 + ((st.map (ez_v G)).map fun v => v.category).sum + 12 ≤ _
  omega
theorem ez_iret {G : ez_G} {M : ez_M} {d : Nat} {Q : ez_Q} {h : ez_H} {n mc ms pc q : Nat} {ls : List (Option Value)} {st : List Value} {x : Int32} (hd : decode M.2.1 pc = .ok (.ireturn, 1)) (hr : M.2.2.2.1 = some .int) (hQ : Q (.inl (some (.int x))) h n) : E G M d Q h n mc ms pc ls [.int x] := by
  intro p e R s m args below meth c H locs cells slots mt mS la X hR hS hL hc hs
  have hlocks : meth.locks = false := X.2.2.2.2.1
  refine vx_ret (W.widen (k := mt) (n := mS) (by omega) (by omega) ?_)
  exact W.iret (v := x) X.1 X.2.1 (X.2.2.1.trans hr) (fun t ht hW => ⟨⟨some (.int x), h, n, rfl, hQ, by rw [ht]; exact hR⟩, hS.F ht⟩) hS.2.2 hd hlocks
theorem ez_lret {G : ez_G} {M : ez_M} {d : Nat} {Q : ez_Q} {h : ez_H} {n mc ms pc q : Nat} {ls : List (Option Value)} {st : List Value} {x : Int64} (hd : decode M.2.1 pc = .ok (.lreturn, 1)) (hr : M.2.2.2.1 = some .long) (hQ : Q (.inl (some (.long x))) h n) : E G M d Q h n mc ms pc ls [.long x] := by
  intro p e R s m args below meth c H locs cells slots mt mS la X hR hS hL hc hs
  have hlocks : meth.locks = false := X.2.2.2.2.1
  refine vx_ret (W.widen (k := mt) (n := mS) (by omega) (by omega) ?_)
  exact W.lret (v := x) X.1 X.2.1 (X.2.2.1.trans hr) (fun t ht hW => ⟨⟨some (.long x), h, n, rfl, hQ, by rw [ht]; exact hR⟩, hS.F ht⟩) hS.2.2 hd hlocks
theorem ez_dret {G : ez_G} {M : ez_M} {d : Nat} {Q : ez_Q} {h : ez_H} {n mc ms pc q : Nat} {ls : List (Option Value)} {st : List Value} {x : UInt64} (hd : decode M.2.1 pc = .ok (.dreturn, 1)) (hr : M.2.2.2.1 = some .double) (hQ : Q (.inl (some (.double x))) h n) : E G M d Q h n mc ms pc ls [.double x] := by
  intro p e R s m args below meth c H locs cells slots mt mS la X hR hS hL hc hs
  have hlocks : meth.locks = false := X.2.2.2.2.1
  refine vx_ret (W.widen (k := mt) (n := mS) (by omega) (by omega) ?_)
  exact W.dret (v := x) X.1 X.2.1 (X.2.2.1.trans hr) (fun t ht hW => ⟨⟨some (.double x), h, n, rfl, hQ, by rw [ht]; exact hR⟩, hS.F ht⟩) hS.2.2 hd hlocks
theorem ez_zret {G : ez_G} {M : ez_M} {d : Nat} {Q : ez_Q} {h : ez_H} {n mc ms pc q : Nat} {ls : List (Option Value)} {st : List Value} {x : Int32} {ty : FieldType} (hd : decode M.2.1 pc = .ok (.ireturn, 1)) (hr : M.2.2.2.1 = some ty) (hn : narrow ty (.int x) = .int x) (hQ : Q (.inl (some (.int x))) h n) : E G M d Q h n mc ms pc ls [.int x] := by
  intro p e R s m args below meth c H locs cells slots mt mS la X hR hS hL hc hs
  have hlocks : meth.locks = false := X.2.2.2.2.1
  refine vx_ret (W.widen (k := mt) (n := mS) (by omega) (by omega) ?_)
  exact W.zret (v := x) X.1 X.2.1 (X.2.2.1.trans hr) hn (fun t ht hW => ⟨⟨some (.int x), h, n, rfl, hQ, by rw [ht]; exact hR⟩, hS.F ht⟩) hS.2.2 hd hlocks
theorem ez_vret {G : ez_G} {M : ez_M} {d : Nat} {Q : ez_Q} {h : ez_H} {n mc ms pc q : Nat} {ls : List (Option Value)} {st : List Value} (hd : decode M.2.1 pc = .ok (.return_, 1)) (hr : M.2.2.2.1 = none) (hQ : Q (.inl none) h n) : E G M d Q h n mc ms pc ls [] := by
  intro p e R s m args below meth c H locs cells slots mt mS la X hR hS hL hc hs
  have hlocks : meth.locks = false := X.2.2.2.2.1
  refine vx_ret (W.widen (k := mt) (n := mS) (by omega) (by omega) ?_)
  exact W.vret X.1 X.2.1 (X.2.2.1.trans hr) (fun t ht hW => ⟨⟨none, h, n, rfl, hQ, by rw [ht]; exact hR⟩, hS.F ht⟩) hS.2.2 hd hlocks
def ez_tw (own cls : String) (ik ic : Nat) : Bool := (Cond.classLink own ik cls :: Cond.initialized cls :: vx_atS own ic cls ["java/lang/RuntimeException", "java/lang/Exception"]).all (fun w => decide (w ∈ lw_tbl) && (goodWord w || ez_isn w) && vx_ot w) && Bundle.fit cls
theorem ez_throw {G : ez_G} {M : ez_M} {d : Nat} {Q : ez_Q} {h : ez_H} {n mc ms pc q : Nat} {ls : List (Option Value)} {st : List Value} {ik is ic : Nat} {cls text : String} (hown : M.1.cls = RX7) (htab : M.2.2.2.2 = []) (hck : ez_tw M.1.cls cls ik ic = true) (hstr : (is, text) ∈ ez_strs)
    (d0 : decode M.2.1 pc = .ok (.new ik, 3)) (d3 : decode M.2.1 (pc + 3) = .ok (.dup, 1)) (d4 : decode M.2.1 (pc + 4) = .ok (.ldc is, 2)) (d6 : decode M.2.1 (pc + 6) = .ok (.invokespecial ic, 3)) (d9 : decode M.2.1 (pc + 9) = .ok (.athrow, 1))
    (hrm : (st.map fun v => v.category).sum ≤ 8) (hQ : ∀ n', n ≤ n' → Q (.inr cls) h n') : E G M (d + 6) Q h n (mc + 1) (ms + 6) pc ls st := by
  intro p e R s m args below meth c H locs cells slots mt mS la X hR hS hL hc hs
  have hfr := X.2.2.2.2.2.2.2.2.2.1
  have hlo := X.2.2.2.2.2.2.2.2.2.2.1
  have h9 := ez_st_cat G st
  unfold ez_tw at hck
  rw [Bool.and_eq_true] at hck
  have hall := List.all_eq_true.mp hck.1
  have hw : ∀ w ∈ Cond.classLink M.1.cls ik cls :: Cond.initialized cls :: vx_atS M.1.cls ic cls ["java/lang/RuntimeException", "java/lang/Exception"], w.before args s = true ∧ vx_ot w = true := by
    intro w hw
    have h1 := hall w hw
    simp only [Bool.and_eq_true, decide_eq_true_eq] at h1
    have h2 := X.2.2.2.2.2.2.2.2.1.2.2.2.2.2.2 w h1.1.1 h1.1.2
    refine ⟨?_, h1.2⟩
    exact vx_ot_at (State.WarmedH.refl s) rfl h1.2 h2
  obtain ⟨sa, hsa⟩ := X.2.2.2.2.2.2.2.2.1.2.2.2.2.1 _ hstr
  refine vx_throwS X.1 X.2.1 X.2.2.2.2.2.2.2.2.1.1 X.2.2.2.1 (names := ["java/lang/RuntimeException", "java/lang/Exception"]) (cls := cls) (ik := ik) (is := is) (ic := ic) hck.2 (by decide +kernel) (hw _ List.mem_cons_self).1 (hw _ (List.mem_cons_of_mem _ List.mem_cons_self)).1 (by rw [hown]; exact hsa) (fun w h => (hw w (List.mem_cons_of_mem _ (List.mem_cons_of_mem _ h))).1) (fun w h => (hw w h).2) X.2.2.2.2.2.2.2.2.1.2.2.1 X.2.2.2.2.2.2.2.2.1.2.2.2.1 hS (hL.1.trans X.2.2.2.2.2.1.symm) d0 d3 d4 d6 d9 (by rw [X.2.2.2.2.2.2.2.1, htab]; intro x hx; cases hx) (by show 2 + 3 < _; omega) (by show _ + (13 * 3 + 43) ≤ _; omega) (by omega) (by omega) X.2.2.2.2.1 (fun t ht hz hk => ?_) hS.2.2 (by omega) (by omega)
  have hz1 := hR.1
  refine ⟨⟨h, t.heap.size + 1 - ez_o G, hQ _ (by omega), hR.kept (by omega) (by omega) hk⟩, ⟨Nat.le_trans hS.1 hz, fun y h1 h2 => (hk y (by have := hS.1; omega)).trans (hS.2.1 y h1 h2)⟩⟩
theorem ez_throwW {G : ez_G} {M : ez_M} {d : Nat} {Q : ez_Q} {h : ez_H} {n mc ms pc q : Nat} {ls : List (Option Value)} {st : List Value} {ik is ic : Nat} {cls text : String} (hown : M.1.cls = RX7) (htab : M.2.2.2.2 = []) (hck : ez_tw M.1.cls cls ik ic = true) (hstr : (is, text) ∈ ez_strs)
    (d0 : decode M.2.1 pc = .ok (.new ik, 3)) (d3 : decode M.2.1 (pc + 3) = .ok (.dup, 1)) (d4 : decode M.2.1 (pc + 4) = .ok (.ldc_w is, 3)) (d6 : decode M.2.1 (pc + 7) = .ok (.invokespecial ic, 3)) (d9 : decode M.2.1 (pc + 10) = .ok (.athrow, 1))
    (hrm : (st.map fun v => v.category).sum ≤ 8) (hQ : ∀ n', n ≤ n' → Q (.inr cls) h n') : E G M (d + 6) Q h n (mc + 1) (ms + 6) pc ls st := by
  intro p e R s m args below meth c H locs cells slots mt mS la X hR hS hL hc hs
  have hfr := X.2.2.2.2.2.2.2.2.2.1
  have hlo := X.2.2.2.2.2.2.2.2.2.2.1
  have h9 := ez_st_cat G st
  unfold ez_tw at hck
  rw [Bool.and_eq_true] at hck
  have hall := List.all_eq_true.mp hck.1
  have hw : ∀ w ∈ Cond.classLink M.1.cls ik cls :: Cond.initialized cls :: vx_atS M.1.cls ic cls ["java/lang/RuntimeException", "java/lang/Exception"], w.before args s = true ∧ vx_ot w = true := by
    intro w hw
    have h1 := hall w hw
    simp only [Bool.and_eq_true, decide_eq_true_eq] at h1
    have h2 := X.2.2.2.2.2.2.2.2.1.2.2.2.2.2.2 w h1.1.1 h1.1.2
    refine ⟨?_, h1.2⟩
    exact vx_ot_at (State.WarmedH.refl s) rfl h1.2 h2
  obtain ⟨sa, hsa⟩ := X.2.2.2.2.2.2.2.2.1.2.2.2.2.1 _ hstr
  refine vx_throwSW X.1 X.2.1 X.2.2.2.2.2.2.2.2.1.1 X.2.2.2.1 (names := ["java/lang/RuntimeException", "java/lang/Exception"]) (cls := cls) (ik := ik) (is := is) (ic := ic) hck.2 (by decide +kernel) (hw _ List.mem_cons_self).1 (hw _ (List.mem_cons_of_mem _ List.mem_cons_self)).1 (by rw [hown]; exact hsa) (fun w h => (hw w (List.mem_cons_of_mem _ (List.mem_cons_of_mem _ h))).1) (fun w h => (hw w h).2) X.2.2.2.2.2.2.2.2.1.2.2.1 X.2.2.2.2.2.2.2.2.1.2.2.2.1 hS (hL.1.trans X.2.2.2.2.2.1.symm) d0 d3 d4 d6 d9 (by rw [X.2.2.2.2.2.2.2.1, htab]; intro x hx; cases hx) (by show 2 + 3 < _; omega) (by show _ + (13 * 3 + 43) ≤ _; omega) (by omega) (by omega) X.2.2.2.2.1 (fun t ht hz hk => ?_) hS.2.2 (by omega) (by omega)
  have hz1 := hR.1
  refine ⟨⟨h, t.heap.size + 1 - ez_o G, hQ _ (by omega), hR.kept (by omega) (by omega) hk⟩, ⟨Nat.le_trans hS.1 hz, fun y h1 h2 => (hk y (by have := hS.1; omega)).trans (hS.2.1 y h1 h2)⟩⟩
end
section
/-- an exception of class x flies at pc -/
def EX (G : ez_G) (M : ez_M) (d : Nat) (Q : ez_Q) (h : ez_H) (n mc ms pc : Nat) (ls : List (Option Value)) (x : String) : Prop :=
  ∀ (p : Program) (e : Env) (R : Room) (s : State) (m : MethodId) (args : Array Value) (below : List Frame) (meth : Method) (c : Code) (H : Heap) (locs : List Loc) (cells slots mt mS : Nat) (la : Array Slot) (q9 : Addr) (ce : Cell) (rest : List Value),
    ez_X G M d p R s m meth c → ez_R G h n H → va_S (ez_A G) s.heap H locs → ez_L G la M.2.2.1 ls → (cells + mc ≤ mt ∧ mt ≤ R.cells) → (slots + ms ≤ mS ∧ mS ≤ R.slots) → H[q9]? = some ce → ce.vm = .none → s.vm.findClass x = some ce.cls →
    vx_W p (ez_l G) e R s m args below meth c H locs cells slots (vx_MQ below (ez_Qc G Q) (ez_Xc G Q) args s mt mS (ez_A G)) (F0 m pc la rest) q9
def ez_ck (own : String) (idx : Nat) (M' : ez_M) (na : Nat) : Bool := [Cond.initialized M'.1.cls, ez_w M'].all (fun w => decide (w ∈ lw_tbl) && goodWord w) && decide (M'.2.2.1 ≤ 25) && !(M'.1.cls == "java/lang/invoke/MethodHandle") && !(M'.1.cls == "java/lang/invoke/VarHandle") && decide ((parseMethodDescriptor M'.1.desc).map (fun d => d.parameters.length) = some na)
def ez_ckV (own : String) (idx : Nat) (M' : ez_M) (na : Nat) : Bool := ez_ck own idx M' na && [Cond.methodLink own idx M'.1, Cond.instanceMethod M'.1, .selects M'.1.cls M'.1 M'.1].all (fun w => decide (w ∈ lw_tbl) && goodWord w)
def ez_ckS (own : String) (idx : Nat) (M' : ez_M) (na : Nat) : Bool := ez_ck own idx M' na && [Cond.methodLink own idx M'.1, Cond.static M'.1].all (fun w => decide (w ∈ lw_tbl) && goodWord w)
def ez_ckI (own : String) (idx : Nat) (M' : ez_M) (na : Nat) : Bool := ez_ck own idx M' na && [Cond.methodLink own idx M'.1, Cond.instanceMethod M'.1].all (fun w => decide (w ∈ lw_tbl) && goodWord w) && (M'.1.name == "<init>")
def ez_ckN (own : String) (idx : Nat) (M' : ez_M) (na : Nat) : Bool := ez_ck own idx M' na && [Cond.instanceMethod M'.1].all (fun w => decide (w ∈ lw_tbl) && goodWord w) && (M'.1.name == "<init>") && decide (Cond.methodLinkNest own idx M'.1 "FutureWishes" ∈ lw_tbl)
theorem ez_all {l : List Cond} (h : l.all (fun w => decide (w ∈ lw_tbl) && goodWord w) = true) {w : Cond} (hw : w ∈ l) : ez_T w := by
  have h1 := List.all_eq_true.mp h w hw
  simp only [Bool.and_eq_true, decide_eq_true_eq] at h1
  exact h1
theorem ez_ck_spec {own : String} {idx : Nat} {M' : ez_M} {na : Nat} (h : ez_ck own idx M' na = true) : ez_T (.initialized M'.1.cls) ∧ ez_T (ez_w M') ∧ M'.2.2.1 ≤ 25 ∧ M'.1.cls ≠ "java/lang/invoke/MethodHandle" ∧ M'.1.cls ≠ "java/lang/invoke/VarHandle" ∧ (parseMethodDescriptor M'.1.desc).map (fun d => d.parameters.length) = some na := by
  simp only [ez_ck, Bool.and_eq_true, decide_eq_true_eq, Bool.not_eq_true', beq_eq_false_iff_ne] at h
  obtain ⟨⟨⟨⟨h1, h2⟩, h3⟩, h4⟩, h5⟩ := h
  exact ⟨ez_all h1 List.mem_cons_self, ez_all h1 (List.mem_cons_of_mem _ List.mem_cons_self), h2, h3, h4, h5⟩
theorem ez_wN {M : ez_M} (h : M.2.2.2.2 = []) : ez_w M = .code M.1 M.2.1 M.2.2.1 M.2.2.2.1 := by rw [ez_w, h]
theorem ez_blind {G : ez_G} {as : List Value} {h : ez_H} {n : Nat} : FrameBlind (ez_Pc G as h n) := fun a U g mk ⟨h1, h2, h3⟩ => ⟨h1, h2, h3.warm (State.WarmedH.refl U) (fun _ _ _ => rfl)⟩
theorem ez_pre {G : ez_G} {M : ez_M} {d : Nat} {as : List Value} {h : ez_H} {n : Nat} {p : Program} {R : Room} {s : State} {m : MethodId} {meth : Method} {c : Code} {H : Heap} {locs : List Loc} (X : ez_X G M d p R s m meth c) (hR : ez_R G h n H) (hS : va_S (ez_A G) s.heap H locs) : ∀ U : State, U.heap = H → s.WarmedH U.vm → ez_Pc G as h n (as.map (ez_v G)).toArray U := fun U hU hW => ⟨rfl, by rw [hU]; exact hR, X.2.2.2.2.2.2.2.2.1.warm hW (fun a h1 h2 => by rw [hU]; exact hS.2.1 a h1 h2)⟩
/-- from the run of a call to the walk behind it -/
theorem ez_back {G : ez_G} {M : ez_M} {d : Nat} {Q Q' : ez_Q} {mc mc' ms ms' pc : Nat} {ls : List (Option Value)} {st0 st : List Value} {a : Array Value}
    {p : Program} {e : Env} {R : Room} {s : State} {m : MethodId} {args : Array Value} {below : List Frame} {meth : Method} {c : Code} {H : Heap} {locs : List Loc} {cells slots mt mS : Nat} {la : Array Slot}
    (hr : vx_Run p (ez_l G) e R s m args below meth c H locs cells slots mc' ms' (F0 m pc la (st0.map (ez_v G))) (st.map (ez_v G)) (ez_Qc G Q' a) (ez_Xc G Q') (ez_A G))
    (KX : ∀ x h' n', Q' (.inr x) h' n' → EX G M d Q h' n' mc ms pc ls x) (K : ∀ r h' n', Q' (.inl r) h' n' → E G M d Q h' n' mc ms (pc + 3) ls (r.toList ++ st))
    (X : ez_X G M d p R s m meth c) (hS : va_S (ez_A G) s.heap H locs) (hL : ez_L G la M.2.2.1 ls) (hc : cells + (mc' + mc) ≤ mt ∧ mt ≤ R.cells) (hs : slots + (ms' + ms) ≤ mS ∧ mS ≤ R.slots) :
    W p (ez_l G) e R s m args below meth c H locs cells slots (vx_MQ below (ez_Qc G Q) (ez_Xc G Q) args s mt mS (ez_A G)) (F0 m pc la (st0.map (ez_v G))) := by
  intro T hT XT
  rcases hr T hT XT with ⟨v, st₀, t, T', L, h0, X2, hL2, e1, e2, ⟨⟨r, h', n', hv, hq, hR'⟩, hF⟩, stp⟩ | ⟨q9, st₀, t, T', L, E9, ce, h0, X2, hL2, e1, e2, ⟨⟨h', n', hq, hR'⟩, hF⟩, hce, hcv, hcl, stp⟩
  · have hv2 : v = r.map (ez_v G) := Outcome.returned.inj hv
    subst hv2
    obtain ⟨k1, k2, k3⟩ := vx_keep h0 e1 hS (fun _ _ h => h) (fun _ h => h) hL2 hF
    obtain ⟨t2, a1, b1⟩ := K r h' n' hq p e R s m args below meth c T'.heap (locs ++ L) (cells + mc') (slots + ms') mt mS la X (by rw [e1]; exact hR') k3 hL (by omega) (by omega) T' rfl X2
    refine ⟨t2, stp t2 ?_, b1⟩
    cases r with
    | none => exact a1
    | some v => exact a1
  · obtain ⟨k1, k2, k3⟩ := vx_keep h0 e1 hS (fun _ _ h => h) (fun _ h => h) hL2 hF
    obtain ⟨t2, a1, b1⟩ := KX E9 h' n' hq p e R s m args below meth c T'.heap (locs ++ L) (cells + mc') (slots + ms') mt mS la q9 ce (st.map (ez_v G)) X (by rw [e1]; exact hR') k3 hL (by omega) (by omega) (by rw [e1]; exact hce) hcv hcl T' rfl X2
    exact ⟨t2, stp.trans a1, b1⟩
theorem ez_callV {G : ez_G} {M : ez_M} {d : Nat} {Q : ez_Q} {h : ez_H} {n mc ms pc q : Nat} {ls : List (Option Value)} {st : List Value} {M' : ez_M} {Q' : ez_Q} {idx na mc' ms' a ci : Nat} {As as st0 : List Value} {fs : List Value} (hd : decode M.2.1 pc = .ok (.invokevirtual idx, 3)) (hck : ez_ckV M.1.cls idx M' na = true) (htab : M'.2.2.2.2 = []) (hC : Con G M' d as h n mc' ms' Q') (hc0 : h a = some (.inr (ci, fs))) (hci : ci < 9 ∧ (ez_cl ci).1 = M'.1.cls) (has : as = .ref a :: As) (hst : st0 = As.reverse ++ .ref a :: st) (hna : As.length = na) (hrm : (st.map fun v => v.category).sum ≤ 8) (hq : pc + 3 = q)
    (KX : ∀ x h' n', Q' (.inr x) h' n' → EX G M (d + 1) Q h' n' mc ms pc ls x) (K : ∀ r h' n', Q' (.inl r) h' n' → E G M (d + 1) Q h' n' mc ms q ls (r.toList ++ st)) : E G M (d + 1) Q h n (mc' + mc) (ms' + ms) pc ls st0 := by
  subst hq; subst has; subst hst
  intro p e R s m args below meth c H locs cells slots mt mS la X hR hS hL hc hs
  simp only [ez_ckV, Bool.and_eq_true] at hck
  obtain ⟨g1, g2, g3, g4, g5, g6⟩ := ez_ck_spec hck.1
  have w1 := X.2.2.2.2.2.2.2.2.1.w (ez_all hck.2 List.mem_cons_self) args
  have w2 := X.2.2.2.2.2.2.2.2.1.w (ez_all hck.2 (List.mem_cons_of_mem _ List.mem_cons_self)) args
  have w3 := X.2.2.2.2.2.2.2.2.1.w (ez_all hck.2 (List.mem_cons_of_mem _ (List.mem_cons_of_mem _ List.mem_cons_self))) args
  have hcat := ez_st_cat G st
  obtain ⟨cB, c1, c2, c3⟩ := va_recv X.2.2.2.2.2.2.2.2.1.2.1 (ez_one hR hc0) (ci := ci) (q0 := 0) (ez_cl_get hci.1) rfl
  rw [hci.2] at c3
  refine ez_back (a := (Value.ref (ez_ad G a) :: As.map (ez_v G)).toArray) (vx_runV (nL := M.2.2.1) (bytes := M'.2.1) (maxL := M'.2.2.1) (ret := M'.2.2.2.1) (n := na) (C := M'.1.cls) (As := As.map (ez_v G)) (b := ez_ad G a) (Ts := []) ⟨X.1, X.2.1, X.2.2.2.2.2.1, X.2.2.2.1, fun w hw => nomatch hw⟩ hC ⟨⟨rfl, rfl, by have := X.2.2.2.2.2.2.2.2.2.1; show d + 1 ≤ R.frames; omega, by have := X.2.2.2.2.2.2.2.2.2.2.1; show 8 + (M'.2.2.1 + 11) + 44 * d ≤ R.locals; omega, fun w hw a' U hW => (by
    rw [List.mem_singleton.mp hw]
    exact word_at hW (good_of_word g2.2) (X.2.2.2.2.2.2.2.2.1.w g2 args)), by rw [← ez_wN htab]; exact List.mem_cons_self, by rw [← ez_wN htab]; exact X.2.2.2.2.2.2.2.2.1.w g2 args, X.2.2.2.2.2.2.2.2.1.w g1 args, ⟨g4, g5⟩, fun sig hs => by rw [hs] at g6; exact (Option.some.inj g6).symm, w1⟩, w2, w3⟩ ⟨ez_blind, ⟨cB, c1, c2, c3⟩, ez_pre X hR hS⟩ rfl (by rw [List.length_map]; exact hna) hL.1 (by show (List.map (ez_v G) (As.reverse ++ .ref a :: st)) = _; simp [ez_v]) (by show 2 * 0 + _ ≤ 8; omega) hd ⟨by omega, by omega⟩) KX K X hS hL (by omega) (by omega)
theorem ez_callS {G : ez_G} {M : ez_M} {d : Nat} {Q : ez_Q} {h : ez_H} {n mc ms pc q : Nat} {ls : List (Option Value)} {st : List Value} {M' : ez_M} {Q' : ez_Q} {idx na mc' ms' : Nat} {as st0 : List Value} (hd : decode M.2.1 pc = .ok (.invokestatic idx, 3)) (hck : ez_ckS M.1.cls idx M' na = true) (htab : M'.2.2.2.2 = []) (hC : Con G M' d as h n mc' ms' Q') (hst : st0 = as.reverse ++ st) (hna : as.length = na) (hrm : (st.map fun v => v.category).sum ≤ 8) (hq : pc + 3 = q)
    (KX : ∀ x h' n', Q' (.inr x) h' n' → EX G M (d + 1) Q h' n' mc ms pc ls x) (K : ∀ r h' n', Q' (.inl r) h' n' → E G M (d + 1) Q h' n' mc ms q ls (r.toList ++ st)) : E G M (d + 1) Q h n (mc' + mc) (ms' + ms) pc ls st0 := by
  subst hq; subst hst
  intro p e R s m args below meth c H locs cells slots mt mS la X hR hS hL hc hs
  simp only [ez_ckS, Bool.and_eq_true] at hck
  obtain ⟨g1, g2, g3, g4, g5, g6⟩ := ez_ck_spec hck.1
  have w1 := X.2.2.2.2.2.2.2.2.1.w (ez_all hck.2 List.mem_cons_self) args
  have w2 := X.2.2.2.2.2.2.2.2.1.w (ez_all hck.2 (List.mem_cons_of_mem _ List.mem_cons_self)) args
  have hcat := ez_st_cat G st
  refine ez_back (a := (as.map (ez_v G)).toArray) (vx_runS (nL := M.2.2.1) (bytes := M'.2.1) (maxL := M'.2.2.1) (ret := M'.2.2.2.1) (n := na) (As := as.map (ez_v G)) (Ts := []) ⟨X.1, X.2.1, X.2.2.2.2.2.1, X.2.2.2.1, fun w hw => nomatch hw⟩ hC ⟨⟨rfl, rfl, by have := X.2.2.2.2.2.2.2.2.2.1; show d + 1 ≤ R.frames; omega, by have := X.2.2.2.2.2.2.2.2.2.2.1; show 8 + (M'.2.2.1 + 11) + 44 * d ≤ R.locals; omega, fun w hw a' U hW => (by
    rw [List.mem_singleton.mp hw]
    exact word_at hW (good_of_word g2.2) (X.2.2.2.2.2.2.2.2.1.w g2 args)), by rw [← ez_wN htab]; exact List.mem_cons_self, by rw [← ez_wN htab]; exact X.2.2.2.2.2.2.2.2.1.w g2 args, X.2.2.2.2.2.2.2.2.1.w g1 args, ⟨g4, g5⟩, fun sig hs => by rw [hs] at g6; exact (Option.some.inj g6).symm, w1⟩, w2⟩ ⟨ez_blind, ez_pre X hR hS⟩ rfl (by rw [List.length_map]; exact hna) hL.1 (by show (List.map (ez_v G) (as.reverse ++ st)) = _; simp) (by show 2 * 0 + _ ≤ 8; omega) hd ⟨by omega, by omega⟩) KX K X hS hL (by omega) (by omega)
theorem ez_callSH {G : ez_G} {M : ez_M} {d : Nat} {Q : ez_Q} {h : ez_H} {n mc ms pc q : Nat} {ls : List (Option Value)} {st : List Value} {M' : ez_M} {Q' : ez_Q} {idx na mc' ms' : Nat} {as st0 : List Value} {hh0 : Nat × Nat × Nat × Nat} {hh1 : List (Nat × Nat × Nat × Nat)} (hd : decode M.2.1 pc = .ok (.invokestatic idx, 3)) (hck : ez_ckS M.1.cls idx M' na = true) (htab : M'.2.2.2.2 = hh0 :: hh1) (hC : Con G M' d as h n mc' ms' Q') (hst : st0 = as.reverse ++ st) (hna : as.length = na) (hrm : (st.map fun v => v.category).sum ≤ 8) (hq : pc + 3 = q)
    (KX : ∀ x h' n', Q' (.inr x) h' n' → EX G M (d + 1) Q h' n' mc ms pc ls x) (K : ∀ r h' n', Q' (.inl r) h' n' → E G M (d + 1) Q h' n' mc ms q ls (r.toList ++ st)) : E G M (d + 1) Q h n (mc' + mc) (ms' + ms) pc ls st0 := by
  subst hq; subst hst
  intro p e R s m args below meth c H locs cells slots mt mS la X hR hS hL hc hs
  simp only [ez_ckS, Bool.and_eq_true] at hck
  obtain ⟨g1, g2, g3, g4, g5, g6⟩ := ez_ck_spec hck.1
  have w1 := X.2.2.2.2.2.2.2.2.1.w (ez_all hck.2 List.mem_cons_self) args
  have w2 := X.2.2.2.2.2.2.2.2.1.w (ez_all hck.2 (List.mem_cons_of_mem _ List.mem_cons_self)) args
  have hcat := ez_st_cat G st
  have hwe : ez_w M' = .codeWith M'.1 M'.2.1 M'.2.2.1 M'.2.2.2.1 (hh0 :: hh1) := by rw [ez_w, htab]
  refine ez_back (a := (as.map (ez_v G)).toArray) (vx_runSX (hh := hh0 :: hh1) (nL := M.2.2.1) (bytes := M'.2.1) (maxL := M'.2.2.1) (ret := M'.2.2.2.1) (n := na) (As := as.map (ez_v G)) (Ts := []) ⟨X.1, X.2.1, X.2.2.2.2.2.1, X.2.2.2.1, fun w hw => nomatch hw⟩ hC ⟨⟨rfl, rfl, by have := X.2.2.2.2.2.2.2.2.2.1; show d + 1 ≤ R.frames; omega, by have := X.2.2.2.2.2.2.2.2.2.2.1; show 8 + (M'.2.2.1 + 11) + 44 * d ≤ R.locals; omega, fun w hw a' U hW => (by
    rw [List.mem_singleton.mp hw]
    exact word_at hW (good_of_word g2.2) (X.2.2.2.2.2.2.2.2.1.w g2 args)), by rw [← hwe]; exact List.mem_cons_self⟩, by rw [← hwe]; exact X.2.2.2.2.2.2.2.2.1.w g2 args, X.2.2.2.2.2.2.2.2.1.w g1 args, ⟨g4, g5⟩, fun sig hs => by rw [hs] at g6; exact (Option.some.inj g6).symm, w1, w2⟩ ⟨ez_blind, ez_pre X hR hS⟩ rfl (by rw [List.length_map]; exact hna) hL.1 (by show (List.map (ez_v G) (as.reverse ++ st)) = _; simp) (by show 2 * 0 + _ ≤ 8; omega) hd ⟨by omega, by omega⟩) KX K X hS hL (by omega) (by omega)
/-- a contract that never throws, as the kit's Met -/
theorem Con.met {G : ez_G} {M : ez_M} {d : Nat} {as : List Value} {h : ez_H} {n mc ms : Nat} {Q : ez_Q} (hC : Con G M d as h n mc ms Q) (hx : ∀ x h' n', ¬ Q (.inr x) h' n') : Met (ez_l G) M.1 [ez_w M] (ez_rm d mc ms) (ez_Pc G as h n) (ez_Qc G Q) mc ms (ez_A G) := by
  intro p e h1 h2 h3 s m args below h4 h5 h6 h7
  obtain ⟨k, o, g1, g2, g3, g4⟩ := hC p e h1 h2 h3 s m args below h4 h5 h6 h7
  refine ⟨k, o, g1, g2, g3, ?_⟩
  rcases g4 with g | ⟨q9, -, E9, ce, L, ⟨⟨h', n', hq, -⟩, -⟩, -⟩
  · exact g
  · exact absurd hq (hx _ _ _)
theorem ez_run_of {G : ez_G} {Q' : ez_Q} {mc' ms' : Nat} {p : Program} {e : Env} {R : Room} {s : State} {m : MethodId} {args a : Array Value} {below : List Frame} {meth : Method} {c : Code} {H : Heap} {locs : List Loc} {cells slots : Nat} {g : JFrame} {rest : List Value}
    (hr : va_Run p (ez_l G) e R s m args below meth c H locs cells slots mc' ms' g rest (ez_Qc G Q' a) (ez_A G)) : vx_Run p (ez_l G) e R s m args below meth c H locs cells slots mc' ms' g rest (ez_Qc G Q' a) (ez_Xc G Q') (ez_A G) := fun T hT X => Or.inl (hr T hT X)
theorem ez_callI {G : ez_G} {M : ez_M} {d : Nat} {Q : ez_Q} {h : ez_H} {n mc ms pc q : Nat} {ls : List (Option Value)} {st : List Value} {M' : ez_M} {Q' : ez_Q} {idx na mc' ms' a : Nat} {As as st0 : List Value} (hd : decode M.2.1 pc = .ok (.invokespecial idx, 3)) (hck : ez_ckI M.1.cls idx M' na = true) (htab : M'.2.2.2.2 = []) (hret : M'.2.2.2.1 = none) (hC : Con G M' d as h n mc' ms' Q') (has : as = .ref a :: As) (hst : st0 = As.reverse ++ .ref a :: st) (hna : As.length = na) (hrm : (st.map fun v => v.category).sum ≤ 8) (hq : pc + 3 = q)
    (KX : ∀ x h' n', ¬ Q' (.inr x) h' n') (K : ∀ r h' n', Q' (.inl r) h' n' → E G M (d + 1) Q h' n' mc ms q ls (r.toList ++ st)) : E G M (d + 1) Q h n (mc' + mc) (ms' + ms) pc ls st0 := by
  subst hq; subst has; subst hst
  intro p e R s m args below meth c H locs cells slots mt mS la X hR hS hL hc hs
  simp only [ez_ckI, Bool.and_eq_true, beq_iff_eq] at hck
  obtain ⟨g1, g2, g3, g4, g5, g6⟩ := ez_ck_spec hck.1.1
  have w1 := X.2.2.2.2.2.2.2.2.1.w (ez_all hck.1.2 List.mem_cons_self) args
  have w2 := X.2.2.2.2.2.2.2.2.1.w (ez_all hck.1.2 (List.mem_cons_of_mem _ List.mem_cons_self)) args
  have hcat := ez_st_cat G st
  refine ez_back (a := (Value.ref (ez_ad G a) :: As.map (ez_v G)).toArray) (ez_run_of (va_runI (nL := M.2.2.1) (bytes := M'.2.1) (maxL := M'.2.2.1) (n := na) (As := As.map (ez_v G)) (b := ez_ad G a) (Ts := []) ⟨X.1, X.2.1, X.2.2.2.2.2.1, X.2.2.2.1, fun w hw => nomatch hw⟩ (hC.met KX) ⟨⟨rfl, rfl, by have := X.2.2.2.2.2.2.2.2.2.1; show d + 1 ≤ R.frames; omega, by have := X.2.2.2.2.2.2.2.2.2.2.1; show 8 + (M'.2.2.1 + 11) + 44 * d ≤ R.locals; omega, fun w hw a' U hW => (by
    rw [List.mem_singleton.mp hw]
    exact word_at hW (good_of_word g2.2) (X.2.2.2.2.2.2.2.2.1.w g2 args)), by rw [← hret, ← ez_wN htab]; exact List.mem_cons_self, by rw [← hret, ← ez_wN htab]; exact X.2.2.2.2.2.2.2.2.1.w g2 args, X.2.2.2.2.2.2.2.2.1.w g1 args, ⟨g4, g5⟩, fun sig hs => by rw [hs] at g6; exact (Option.some.inj g6).symm, w1⟩, hck.2, w2⟩ ⟨ez_blind, ez_pre X hR hS⟩ rfl (by rw [List.length_map]; exact hna) hL.1 (by show (List.map (ez_v G) (As.reverse ++ .ref a :: st)) = _; simp [ez_v]) (by show 2 * 0 + _ ≤ 8; omega) hd ⟨by omega, by omega⟩)) (fun x h' n' hq => absurd hq (KX _ _ _)) K X hS hL (by omega) (by omega)
theorem ez_callN {G : ez_G} {M : ez_M} {d : Nat} {Q : ez_Q} {h : ez_H} {n mc ms pc q : Nat} {ls : List (Option Value)} {st : List Value} {M' : ez_M} {Q' : ez_Q} {idx na mc' ms' a : Nat} {As as st0 : List Value} (hd : decode M.2.1 pc = .ok (.invokespecial idx, 3)) (hck : ez_ckN M.1.cls idx M' na = true) (htab : M'.2.2.2.2 = []) (hret : M'.2.2.2.1 = none) (hC : Con G M' d as h n mc' ms' Q') (has : as = .ref a :: As) (hst : st0 = As.reverse ++ .ref a :: st) (hna : As.length = na) (hrm : (st.map fun v => v.category).sum ≤ 8) (hq : pc + 3 = q)
    (KX : ∀ x h' n', ¬ Q' (.inr x) h' n') (K : ∀ r h' n', Q' (.inl r) h' n' → E G M (d + 1) Q h' n' mc ms q ls (r.toList ++ st)) : E G M (d + 1) Q h n (mc' + mc) (ms' + ms) pc ls st0 := by
  subst hq; subst has; subst hst
  intro p e R s m args below meth c H locs cells slots mt mS la X hR hS hL hc hs
  simp only [ez_ckN, Bool.and_eq_true, beq_iff_eq, decide_eq_true_eq] at hck
  obtain ⟨g1, g2, g3, g4, g5, g6⟩ := ez_ck_spec hck.1.1.1
  have w1 := X.2.2.2.2.2.2.2.2.1.n hck.2 rfl
  have w2 := X.2.2.2.2.2.2.2.2.1.w (ez_all hck.1.1.2 List.mem_cons_self) args
  have hcat := ez_st_cat G st
  refine ez_back (a := (Value.ref (ez_ad G a) :: As.map (ez_v G)).toArray) (ez_run_of (va_runIN (host := "FutureWishes") (nL := M.2.2.1) (bytes := M'.2.1) (maxL := M'.2.2.1) (n := na) (As := As.map (ez_v G)) (b := ez_ad G a) (Ts := []) ⟨X.1, X.2.1, X.2.2.2.2.2.1, X.2.2.2.1, fun w hw => nomatch hw⟩ (hC.met KX) ⟨⟨⟨rfl, rfl, by have := X.2.2.2.2.2.2.2.2.2.1; show d + 1 ≤ R.frames; omega, by have := X.2.2.2.2.2.2.2.2.2.2.1; show 8 + (M'.2.2.1 + 11) + 44 * d ≤ R.locals; omega, fun w hw a' U hW => (by
    rw [List.mem_singleton.mp hw]
    exact word_at hW (good_of_word g2.2) (X.2.2.2.2.2.2.2.2.1.w g2 args)), by rw [← hret, ← ez_wN htab]; exact List.mem_cons_self⟩, by rw [← hret, ← ez_wN htab]; exact X.2.2.2.2.2.2.2.2.1.w g2 args, X.2.2.2.2.2.2.2.2.1.w g1 args, ⟨g4, g5⟩, fun sig hs => by rw [hs] at g6; exact (Option.some.inj g6).symm, va_Nw.use rfl w1⟩, hck.1.2, w2⟩ ⟨ez_blind, ez_pre X hR hS⟩ rfl (by rw [List.length_map]; exact hna) hL.1 (by show (List.map (ez_v G) (As.reverse ++ .ref a :: st)) = _; simp [ez_v]) (by show 2 * 0 + _ ≤ 8; omega) hd ⟨by omega, by omega⟩)) (fun x h' n' hq => absurd hq (KX _ _ _)) K X hS hL (by omega) (by omega)
theorem EX_out {G : ez_G} {M : ez_M} {d : Nat} {Q : ez_Q} {h : ez_H} {n mc ms pc q : Nat} {ls : List (Option Value)} {st : List Value} {x : String} (htab : M.2.2.2.2 = []) (hQ : Q (.inr x) h n) : EX G M d Q h n mc ms pc ls x := by
  intro p e R s m args below meth c H locs cells slots mt mS la q9 ce rest X hR hS hL hc hs hce hcv hcl
  exact vx_out (by rw [X.2.2.2.2.2.2.2.1, htab]; intro x hx; cases hx) X.2.2.2.2.1 hce hcv hcl (fun t ht hA => ⟨⟨h, n, hQ, by rw [ht]; exact hR⟩, hS.F ht⟩) hS.2.2 (by omega) (by omega)
/-- a handler that puts the exception away: its first instruction is the store -/
theorem EX_catch {G : ez_G} {M : ez_M} {d : Nat} {Q : ez_Q} {h : ez_H} {n mc ms pc q : Nat} {ls : List (Option Value)} {st : List Value} {x : String} {pre suf : List (Nat × Nat × Nat × Nat)} {hh : Nat × Nat × Nat × Nat} {ls' : List (Option Value)} {k len : Nat} (htab : M.2.2.2.2 = pre ++ hh :: suf) (hpass : ∀ z ∈ pre, z.2.2.2 ≠ 0 ∧ ∃ nm : String, ez_T (.classLink M.1.cls z.2.2.2 nm) ∧ (x, nm) ∈ ez_ncs) (hcov : covers ⟨hh.1, hh.2.1, hh.2.2.1, hh.2.2.2⟩ pc = true) (h0 : hh.2.2.2 ≠ 0) (hlk : ez_T (.classLink M.1.cls hh.2.2.2 x)) (hcs : Cond.castable x x ∈ lw_tbl)
    (hd : (∃ f : Fin 4, (f : Nat) = k ∧ decode M.2.1 hh.2.2.1 = .ok (.astore_n f, 1) ∧ len = 1) ∨ (decode M.2.1 hh.2.2.1 = .ok (.astore k, 2) ∧ len = 2)) (hn : k < M.2.2.1) (hs' : ls.set k none = ls') (hc' : k = 0 ∨ ∃ x, ls[k - 1]? = some x ∧ ez_c1 x = true) (hq : hh.2.2.1 + len = q) (K : E G M d Q h n mc ms q ls' []) : EX G M d Q h n mc ms pc ls x := by
  intro p e R s m args below meth c H locs cells slots mt mS la q9 ce rest X hR hS hL hc hs hce hcv hcl
  have hst : ∀ la' : Array Slot, lv_has la' M.2.2.1 ((k, Value.ref q9) :: (ez_prs G 0 ls).filter (fun q => !(q.1 == k) && !(q.1 + 1 == k && q.2.category == 2))) → ez_L G la' M.2.2.1 ls' := by
    intro la' hl'
    have h1 : lv_has la' M.2.2.1 ((k, ez_v G .null) :: (ez_prs G 0 ls).filter (fun q => !(q.1 == k) && !(q.1 + 1 == k && q.2.category == 2))) → ez_L G la' M.2.2.1 (ls.set k (some .null)) := fun hz => ez_L.st1 hz rfl hc'
    refine ez_L.of hl' (fun j y hy => ?_)
    subst hs'
    by_cases hj : j = k
    · subst hj
      rw [List.getElem?_set] at hy
      simp only [if_pos] at hy
      split at hy <;> cases hy
    · rw [List.getElem?_set_ne (Ne.symm hj)] at hy
      refine List.mem_cons_of_mem _ (List.mem_filter.mpr ⟨by have := ez_prs_of (G := G) (k := 0) hy; rwa [Nat.zero_add] at this, ?_⟩)
      have h1 : (j == k) = false := by simpa using hj
      simp only [h1, Bool.not_false, Bool.true_and, Bool.not_eq_true', Bool.and_eq_false_iff]
      by_cases h2 : j + 1 = k
      · right
        rcases hc' with hc' | ⟨u, hu, hc'⟩
        · omega
        · rw [show k - 1 = j by omega, hy] at hu
          cases hu
          simp only [ez_c1, Bool.not_eq_true'] at hc'
          rw [ez_v_cat]
          exact hc'
      · left
        simpa using h2
  refine vx_catch X.2.2.2.1 (tableOf pre) ⟨hh.1, hh.2.1, hh.2.2.1, hh.2.2.2⟩ (tableOf suf) (by rw [X.2.2.2.2.2.2.2.1, htab]; simp [tableOf]) (fun z hz => Or.inr ?_) hcov h0 (X.2.2.2.2.2.2.2.2.1.w hlk args) (va_Nw.use rfl (X.2.2.2.2.2.2.2.2.1.n hcs rfl)) hce hcv hcl ?_
  · obtain ⟨z0, hz0, rfl⟩ := List.mem_map.mp hz
    obtain ⟨a1, nm, a2, a3⟩ := hpass z0 hz0
    exact ⟨a1, nm, X.2.2.2.2.2.2.2.2.1.w a2 args, X.2.2.2.2.2.2.2.2.1.2.2.2.2.2.1 _ a3⟩
  · rcases hd with ⟨f, hf, hd, rfl⟩ | ⟨hd, rfl⟩
    · subst hq
      exact lv_astore_n X.1 X.2.1 hd hf hL.has hn rfl (fun la' hl' => K p e R s m args below meth c H locs cells slots mt mS la' X hR hS (hst la' hl') hc hs)
    · subst hq
      exact lv_astore X.1 X.2.1 hd hL.has hn rfl (fun la' hl' => K p e R s m args below meth c H locs cells slots mt mS la' X hR hS (hst la' hl') hc hs)
-- a method's start
def ez_sl : List Value → List (Option Value)
  | [] => []
  | v :: r => if v.category = 2 then some v :: none :: ez_sl r else some v :: ez_sl r
theorem ez_sl_len (G : ez_G) (as : List Value) : (lg_sl (as.map (ez_v G))).length = (ez_sl as).length := by
  induction as with
  | nil => rfl
  | cons v r ih =>
    have h1 : lg_sl ((v :: r).map (ez_v G)) = (if (ez_v G v).category = 2 then [.val (ez_v G v), .second] else [.val (ez_v G v)]) ++ lg_sl (r.map (ez_v G)) := by simp [lg_sl]
    rw [h1, ez_v_cat, ez_sl]
    split <;> simp [ih]
theorem ez_sl_args {G : ez_G} {x : Value} : ∀ {as : List Value} {i j : Nat}, (ez_sl as)[j]? = some (some x) → (i + j, ez_v G x) ∈ lv_args i (as.map (ez_v G)) := by
  intro as
  induction as with
  | nil => intro i j h; simp [ez_sl] at h
  | cons v r ih =>
    intro i j h
    show _ ∈ (i, ez_v G v) :: lv_args (if (ez_v G v).category = 2 then i + 2 else i + 1) (r.map (ez_v G))
    rw [ez_v_cat]
    rw [ez_sl] at h
    by_cases hv : v.category = 2
    · rw [if_pos hv] at h ⊢
      match j, h with
      | 0, h => cases h; exact List.mem_cons_self
      | 1, h => cases h
      | j + 2, h =>
        have h2 := ih (i := i + 2) (j := j) (by simpa using h)
        rw [show i + (j + 2) = i + 2 + j by omega]
        exact List.mem_cons_of_mem _ h2
    · rw [if_neg hv] at h ⊢
      match j, h with
      | 0, h => cases h; exact List.mem_cons_self
      | j + 1, h =>
        have h2 := ih (i := i + 1) (j := j) (by simpa using h)
        rw [show i + (j + 1) = i + 1 + j by omega]
        exact List.mem_cons_of_mem _ h2
theorem ez_L.entry {G : ez_G} {as : List Value} {nL : Nat} {ls : List (Option Value)} (hlen : (ez_sl as).length ≤ nL) (hls : ez_sl as ++ List.replicate (nL - (ez_sl as).length) none = ls) : ez_L G ((lg_sl (as.map (ez_v G)) ++ List.replicate (nL - (lg_sl (as.map (ez_v G))).length) Slot.unset).toArray) nL ls := by
  subst hls
  refine ez_L.of (lv_entry (as.map (ez_v G)) (n := nL) (by rw [ez_sl_len]; exact hlen)) (fun j x hx => ?_)
  by_cases hj : j < (ez_sl as).length
  · rw [List.getElem?_append_left hj] at hx
    have := ez_sl_args (G := G) (i := 0) hx
    rwa [Nat.zero_add] at this
  · rw [List.getElem?_append_right (by omega), List.getElem?_replicate] at hx
    split at hx <;> cases hx
theorem Con.of {G : ez_G} {M : ez_M} {d : Nat} {as : List Value} {h : ez_H} {n mc ms : Nat} {Q : ez_Q} (ls : List (Option Value)) (hpl : plainName M.1.cls = true) (htab : M.2.2.2.2 = []) (hlen : (ez_sl as).length ≤ M.2.2.1) (hls : ez_sl as ++ List.replicate (M.2.2.1 - (ez_sl as).length) none = ls) (K : E G M d Q h n mc ms 0 ls []) : Con G M d as h n mc ms Q := by
  refine vx_ofW (cc := M.2.1) (maxL := M.2.2.1) (ret := M.2.2.2.1) hpl (by rw [ez_wN htab]) ?_
  intro p e s m args below meth c s₁ B hml ht hv
  obtain ⟨rfl, hR, hK⟩ := hv
  rw [lg_entry_eq]
  have hz := hR.1
  have hz2 := hR.2.1
  refine K p e _ s m _ below meth c s.heap [] 0 0 mc ms _ ⟨B.exec, B.bytes, B.returns, findClass_of_methodNamed B.named, B.notSynchronized, hml, (name_of_methodNamed B.named B.method).1, ?_, hK, Nat.le_refl _, Nat.le_refl _, by omega⟩ hR va_S.rf (ez_L.entry hlen hls) ⟨by omega, Nat.le_refl _⟩ ⟨by omega, Nat.le_refl _⟩
  rw [htab]
  cases hct : c.exceptionTable.toList with
  | nil => rfl
  | cons x r => exact absurd (by rw [hct]; exact List.mem_cons_self) (ht x)
theorem Con.ofH {G : ez_G} {M : ez_M} {d : Nat} {as : List Value} {h : ez_H} {n mc ms : Nat} {Q : ez_Q} {hh0 : Nat × Nat × Nat × Nat} {hh1 : List (Nat × Nat × Nat × Nat)} (ls : List (Option Value)) (hpl : plainName M.1.cls = true) (htab : M.2.2.2.2 = hh0 :: hh1) (hlen : (ez_sl as).length ≤ M.2.2.1) (hls : ez_sl as ++ List.replicate (M.2.2.1 - (ez_sl as).length) none = ls) (K : E G M d Q h n mc ms 0 ls []) : Con G M d as h n mc ms Q := by
  have hwe : ez_w M = .codeWith M.1 M.2.1 M.2.2.1 M.2.2.2.1 (hh0 :: hh1) := by rw [ez_w, htab]
  refine vx_ofWH (cc := M.2.1) (maxL := M.2.2.1) (ret := M.2.2.2.1) (hh := hh0 :: hh1) hpl (by rw [hwe]) ?_
  intro p e s m args below meth c s₁ B hml hv
  obtain ⟨rfl, hR, hK⟩ := hv
  rw [lg_entry_eq]
  have hz := hR.1
  have hz2 := hR.2.1
  have ht := vx_table (x := M.1) B (by rw [← hwe]; exact atoms_spec (ws := [ez_w M]) B.pre _ List.mem_cons_self)
  exact K p e _ s m _ below meth c s.heap [] 0 0 mc ms _ ⟨B.exec, B.bytes, B.returns, findClass_of_methodNamed B.named, B.notSynchronized, hml, (name_of_methodNamed B.named B.method).1, by rw [ht, htab], hK, Nat.le_refl _, Nat.le_refl _, by omega⟩ hR va_S.rf (ez_L.entry hlen hls) ⟨by omega, Nat.le_refl _⟩ ⟨by omega, Nat.le_refl _⟩
/-- a weaker end -/
theorem Con.weaken {G : ez_G} {M : ez_M} {d : Nat} {as : List Value} {h : ez_H} {n mc ms : Nat} {Q Q' : ez_Q} (hC : Con G M d as h n mc ms Q) (hq : ∀ r h n, Q r h n → Q' r h n) : Con G M d as h n mc ms Q' := by
  intro p e h1 h2 h3 s m args below h4 h5 h6 h7
  obtain ⟨k, o, g1, g2, g3, g4⟩ := hC p e h1 h2 h3 s m args below h4 h5 h6 h7
  refine ⟨k, o, g1, g2, g3, ?_⟩
  rcases g4 with ⟨⟨⟨r, h', n', a1, a2, a3⟩, hF⟩, g⟩ | ⟨q9, a0, E9, ce, L, ⟨⟨h', n', hq9, a3⟩, hF⟩, g⟩
  · exact Or.inl ⟨⟨⟨r, h', n', a1, hq _ _ _ a2, a3⟩, hF⟩, g⟩
  · exact Or.inr ⟨q9, a0, E9, ce, L, ⟨⟨h', n', hq _ _ _ hq9, a3⟩, hF⟩, g⟩
/-- fewer cells said -/
theorem E.sub {G : ez_G} {M : ez_M} {d : Nat} {Q : ez_Q} {h : ez_H} {n mc ms pc q : Nat} {ls : List (Option Value)} {st : List Value} {h' : ez_H} (hsb : ∀ i e, h' i = some e → h i = some e) (K : E G M d Q h' n mc ms pc ls st) : E G M d Q h n mc ms pc ls st := by
  intro p e R s m args below meth c H locs cells slots mt mS la X hR hS hL hc hs
  exact K p e R s m args below meth c H locs cells slots mt mS la X (hR.sub hsb) hS hL hc hs
/-- fewer locals known -/
theorem E.lsub {G : ez_G} {M : ez_M} {d : Nat} {Q : ez_Q} {h : ez_H} {n mc ms pc q : Nat} {ls : List (Option Value)} {st : List Value} {ls' : List (Option Value)} (hl : ∀ (j : Nat) (x : Value), ls'[j]? = some (some x) → ls[j]? = some (some x)) (K : E G M d Q h n mc ms pc ls' st) : E G M d Q h n mc ms pc ls st := by
  intro p e R s m args below meth c H locs cells slots mt mS la X hR hS hL hc hs
  exact K p e R s m args below meth c H locs cells slots mt mS la X hR hS (hL.sub hl) hc hs
/-- less left to make -/
theorem E.less {G : ez_G} {M : ez_M} {d : Nat} {Q : ez_Q} {h : ez_H} {n mc ms pc q : Nat} {ls : List (Option Value)} {st : List Value} {mc' ms' : Nat} (h1 : mc' ≤ mc) (h2 : ms' ≤ ms) (K : E G M d Q h n mc' ms' pc ls st) : E G M d Q h n mc ms pc ls st := by
  intro p e R s m args below meth c H locs cells slots mt mS la X hR hS hL hc hs
  exact K p e R s m args below meth c H locs cells slots mt mS la X hR hS hL (by omega) (by omega)
end
