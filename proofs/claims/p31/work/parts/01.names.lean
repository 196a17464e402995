-- ===== PART A: goes FIRST, ahead of the names: the tables' words, and 'selects' of the private methods out of them =====
/-- a private method of a class that the tables say can be made, by its rows of tables_1 -/
def lw_okq (q : MethodName × Nat) : Prop := (q.1.cls ≠ "java/lang/invoke/MethodHandle" ∧ q.1.cls ≠ "java/lang/invoke/VarHandle") ∧ Cond.instantiable q.1.cls q.2 ∈ tables_1 ∧ Cond.privateMethod q.1 ∈ tables_1 ∧ Cond.instanceMethod q.1 ∈ tables_1
theorem lw_p0 : lw_okq (⟨"UphillCarts", "begin", "()V"⟩, 19) := ⟨⟨by decide +kernel, by decide +kernel⟩, List.mem_of_getElem? (i := 26) (by decide +kernel), List.mem_of_getElem? (i := 529) (by decide +kernel), List.mem_of_getElem? (i := 530) (by decide +kernel)⟩
theorem lw_p1 : lw_okq (⟨"UphillCarts", "addBytes", "(I)V"⟩, 19) := ⟨⟨by decide +kernel, by decide +kernel⟩, List.mem_of_getElem? (i := 26) (by decide +kernel), List.mem_of_getElem? (i := 607) (by decide +kernel), List.mem_of_getElem? (i := 608) (by decide +kernel)⟩
theorem lw_p2 : lw_okq (⟨"UphillCarts$Tokens", "readWord", "()V"⟩, 7) := ⟨⟨by decide +kernel, by decide +kernel⟩, List.mem_of_getElem? (i := 239) (by decide +kernel), List.mem_of_getElem? (i := 634) (by decide +kernel), List.mem_of_getElem? (i := 635) (by decide +kernel)⟩
theorem lw_p3 : lw_okq (⟨"UphillCarts$Tokens", "kindOf", "(I)I"⟩, 7) := ⟨⟨by decide +kernel, by decide +kernel⟩, List.mem_of_getElem? (i := 239) (by decide +kernel), List.mem_of_getElem? (i := 638) (by decide +kernel), List.mem_of_getElem? (i := 639) (by decide +kernel)⟩
theorem lw_p4 : lw_okq (⟨"UphillCarts$Tokens", "readNumber", "()V"⟩, 7) := ⟨⟨by decide +kernel, by decide +kernel⟩, List.mem_of_getElem? (i := 239) (by decide +kernel), List.mem_of_getElem? (i := 645) (by decide +kernel), List.mem_of_getElem? (i := 646) (by decide +kernel)⟩
theorem lw_p5 : lw_okq (⟨"UphillCarts$Tokens", "readSecondSign", "()V"⟩, 7) := ⟨⟨by decide +kernel, by decide +kernel⟩, List.mem_of_getElem? (i := 239) (by decide +kernel), List.mem_of_getElem? (i := 653) (by decide +kernel), List.mem_of_getElem? (i := 654) (by decide +kernel)⟩
theorem lw_p6 : lw_okq (⟨"UphillCarts$Parser", "readLine", "()Z"⟩, 11) := ⟨⟨by decide +kernel, by decide +kernel⟩, List.mem_of_getElem? (i := 233) (by decide +kernel), List.mem_of_getElem? (i := 657) (by decide +kernel), List.mem_of_getElem? (i := 658) (by decide +kernel)⟩
theorem lw_p7 : lw_okq (⟨"UphillCarts$Parser", "isBelow", "(II)Z"⟩, 11) := ⟨⟨by decide +kernel, by decide +kernel⟩, List.mem_of_getElem? (i := 233) (by decide +kernel), List.mem_of_getElem? (i := 661) (by decide +kernel), List.mem_of_getElem? (i := 662) (by decide +kernel)⟩
theorem lw_p8 : lw_okq (⟨"UphillCarts$Parser", "fails", "(I)Z"⟩, 11) := ⟨⟨by decide +kernel, by decide +kernel⟩, List.mem_of_getElem? (i := 233) (by decide +kernel), List.mem_of_getElem? (i := 665) (by decide +kernel), List.mem_of_getElem? (i := 666) (by decide +kernel)⟩
theorem lw_p9 : lw_okq (⟨"UphillCarts$Parser", "readBend", "()Z"⟩, 11) := ⟨⟨by decide +kernel, by decide +kernel⟩, List.mem_of_getElem? (i := 233) (by decide +kernel), List.mem_of_getElem? (i := 669) (by decide +kernel), List.mem_of_getElem? (i := 670) (by decide +kernel)⟩
theorem lw_p10 : lw_okq (⟨"UphillCarts$Parser", "isNewName", "(I)Z"⟩, 11) := ⟨⟨by decide +kernel, by decide +kernel⟩, List.mem_of_getElem? (i := 233) (by decide +kernel), List.mem_of_getElem? (i := 678) (by decide +kernel), List.mem_of_getElem? (i := 679) (by decide +kernel)⟩
theorem lw_p11 : lw_okq (⟨"UphillCarts$Parser", "takesNumber", "(II)Z"⟩, 11) := ⟨⟨by decide +kernel, by decide +kernel⟩, List.mem_of_getElem? (i := 233) (by decide +kernel), List.mem_of_getElem? (i := 682) (by decide +kernel), List.mem_of_getElem? (i := 683) (by decide +kernel)⟩
theorem lw_p12 : lw_okq (⟨"UphillCarts$Parser", "readWind", "()Z"⟩, 11) := ⟨⟨by decide +kernel, by decide +kernel⟩, List.mem_of_getElem? (i := 233) (by decide +kernel), List.mem_of_getElem? (i := 686) (by decide +kernel), List.mem_of_getElem? (i := 687) (by decide +kernel)⟩
theorem lw_p13 : lw_okq (⟨"UphillCarts$Parser", "readGoods", "()Z"⟩, 11) := ⟨⟨by decide +kernel, by decide +kernel⟩, List.mem_of_getElem? (i := 233) (by decide +kernel), List.mem_of_getElem? (i := 690) (by decide +kernel), List.mem_of_getElem? (i := 691) (by decide +kernel)⟩
theorem lw_p14 : lw_okq (⟨"UphillCarts$Parser", "readBag", "()Z"⟩, 11) := ⟨⟨by decide +kernel, by decide +kernel⟩, List.mem_of_getElem? (i := 233) (by decide +kernel), List.mem_of_getElem? (i := 698) (by decide +kernel), List.mem_of_getElem? (i := 699) (by decide +kernel)⟩
theorem lw_p15 : lw_okq (⟨"UphillCarts$Parser", "readDepot", "()Z"⟩, 11) := ⟨⟨by decide +kernel, by decide +kernel⟩, List.mem_of_getElem? (i := 233) (by decide +kernel), List.mem_of_getElem? (i := 706) (by decide +kernel), List.mem_of_getElem? (i := 707) (by decide +kernel)⟩
def lw_privs_1 : List (MethodName × Nat) := [(⟨"UphillCarts", "begin", "()V"⟩, 19), (⟨"UphillCarts", "addBytes", "(I)V"⟩, 19), (⟨"UphillCarts$Tokens", "readWord", "()V"⟩, 7), (⟨"UphillCarts$Tokens", "kindOf", "(I)I"⟩, 7), (⟨"UphillCarts$Tokens", "readNumber", "()V"⟩, 7), (⟨"UphillCarts$Tokens", "readSecondSign", "()V"⟩, 7), (⟨"UphillCarts$Parser", "readLine", "()Z"⟩, 11), (⟨"UphillCarts$Parser", "isBelow", "(II)Z"⟩, 11), (⟨"UphillCarts$Parser", "fails", "(I)Z"⟩, 11), (⟨"UphillCarts$Parser", "readBend", "()Z"⟩, 11), (⟨"UphillCarts$Parser", "isNewName", "(I)Z"⟩, 11), (⟨"UphillCarts$Parser", "takesNumber", "(II)Z"⟩, 11), (⟨"UphillCarts$Parser", "readWind", "()Z"⟩, 11), (⟨"UphillCarts$Parser", "readGoods", "()Z"⟩, 11), (⟨"UphillCarts$Parser", "readBag", "()Z"⟩, 11), (⟨"UphillCarts$Parser", "readDepot", "()Z"⟩, 11)]
theorem lw_r1 : ∀ q ∈ lw_privs_1, lw_okq q := List.forall_mem_cons.mpr ⟨lw_p0, List.forall_mem_cons.mpr ⟨lw_p1, List.forall_mem_cons.mpr ⟨lw_p2, List.forall_mem_cons.mpr ⟨lw_p3, List.forall_mem_cons.mpr ⟨lw_p4, List.forall_mem_cons.mpr ⟨lw_p5, List.forall_mem_cons.mpr ⟨lw_p6, List.forall_mem_cons.mpr ⟨lw_p7, List.forall_mem_cons.mpr ⟨lw_p8, List.forall_mem_cons.mpr ⟨lw_p9, List.forall_mem_cons.mpr ⟨lw_p10, List.forall_mem_cons.mpr ⟨lw_p11, List.forall_mem_cons.mpr ⟨lw_p12, List.forall_mem_cons.mpr ⟨lw_p13, List.forall_mem_cons.mpr ⟨lw_p14, List.forall_mem_cons.mpr ⟨lw_p15, fun _ h => absurd h List.not_mem_nil⟩⟩⟩⟩⟩⟩⟩⟩⟩⟩⟩⟩⟩⟩⟩⟩
theorem lw_p16 : lw_okq (⟨"UphillCarts$Parser", "bendToldAhead", "(I)I"⟩, 11) := ⟨⟨by decide +kernel, by decide +kernel⟩, List.mem_of_getElem? (i := 233) (by decide +kernel), List.mem_of_getElem? (i := 710) (by decide +kernel), List.mem_of_getElem? (i := 711) (by decide +kernel)⟩
theorem lw_p17 : lw_okq (⟨"UphillCarts$Parser", "readThief", "()Z"⟩, 11) := ⟨⟨by decide +kernel, by decide +kernel⟩, List.mem_of_getElem? (i := 233) (by decide +kernel), List.mem_of_getElem? (i := 714) (by decide +kernel), List.mem_of_getElem? (i := 715) (by decide +kernel)⟩
theorem lw_p18 : lw_okq (⟨"UphillCarts$Parser", "isToldOnce", "()Z"⟩, 11) := ⟨⟨by decide +kernel, by decide +kernel⟩, List.mem_of_getElem? (i := 233) (by decide +kernel), List.mem_of_getElem? (i := 718) (by decide +kernel), List.mem_of_getElem? (i := 719) (by decide +kernel)⟩
theorem lw_p19 : lw_okq (⟨"UphillCarts$Parser", "readWarm", "()Z"⟩, 11) := ⟨⟨by decide +kernel, by decide +kernel⟩, List.mem_of_getElem? (i := 233) (by decide +kernel), List.mem_of_getElem? (i := 722) (by decide +kernel), List.mem_of_getElem? (i := 723) (by decide +kernel)⟩
theorem lw_p20 : lw_okq (⟨"UphillCarts$Parser", "readHorse", "()Z"⟩, 11) := ⟨⟨by decide +kernel, by decide +kernel⟩, List.mem_of_getElem? (i := 233) (by decide +kernel), List.mem_of_getElem? (i := 726) (by decide +kernel), List.mem_of_getElem? (i := 727) (by decide +kernel)⟩
theorem lw_p21 : lw_okq (⟨"UphillCarts$Parser", "readRope", "()Z"⟩, 11) := ⟨⟨by decide +kernel, by decide +kernel⟩, List.mem_of_getElem? (i := 233) (by decide +kernel), List.mem_of_getElem? (i := 730) (by decide +kernel), List.mem_of_getElem? (i := 731) (by decide +kernel)⟩
theorem lw_p22 : lw_okq (⟨"UphillCarts$Parser", "readStone", "()Z"⟩, 11) := ⟨⟨by decide +kernel, by decide +kernel⟩, List.mem_of_getElem? (i := 233) (by decide +kernel), List.mem_of_getElem? (i := 734) (by decide +kernel), List.mem_of_getElem? (i := 735) (by decide +kernel)⟩
theorem lw_p23 : lw_okq (⟨"UphillCarts$Parser", "readSeed", "()Z"⟩, 11) := ⟨⟨by decide +kernel, by decide +kernel⟩, List.mem_of_getElem? (i := 233) (by decide +kernel), List.mem_of_getElem? (i := 738) (by decide +kernel), List.mem_of_getElem? (i := 739) (by decide +kernel)⟩
theorem lw_p24 : lw_okq (⟨"UphillCarts$Parser", "readLaw", "()Z"⟩, 11) := ⟨⟨by decide +kernel, by decide +kernel⟩, List.mem_of_getElem? (i := 233) (by decide +kernel), List.mem_of_getElem? (i := 743) (by decide +kernel), List.mem_of_getElem? (i := 744) (by decide +kernel)⟩
theorem lw_p25 : lw_okq (⟨"UphillCarts$Parser", "takesValue", "(LUphillCarts$Law;)Z"⟩, 11) := ⟨⟨by decide +kernel, by decide +kernel⟩, List.mem_of_getElem? (i := 233) (by decide +kernel), List.mem_of_getElem? (i := 751) (by decide +kernel), List.mem_of_getElem? (i := 752) (by decide +kernel)⟩
theorem lw_p26 : lw_okq (⟨"UphillCarts$Parser", "isOneKnotMore", "()Z"⟩, 11) := ⟨⟨by decide +kernel, by decide +kernel⟩, List.mem_of_getElem? (i := 233) (by decide +kernel), List.mem_of_getElem? (i := 759) (by decide +kernel), List.mem_of_getElem? (i := 760) (by decide +kernel)⟩
theorem lw_p27 : lw_okq (⟨"UphillCarts$Parser", "push", "(I)V"⟩, 11) := ⟨⟨by decide +kernel, by decide +kernel⟩, List.mem_of_getElem? (i := 233) (by decide +kernel), List.mem_of_getElem? (i := 763) (by decide +kernel), List.mem_of_getElem? (i := 764) (by decide +kernel)⟩
theorem lw_p28 : lw_okq (⟨"UphillCarts$Parser", "rankOnTop", "()I"⟩, 11) := ⟨⟨by decide +kernel, by decide +kernel⟩, List.mem_of_getElem? (i := 233) (by decide +kernel), List.mem_of_getElem? (i := 767) (by decide +kernel), List.mem_of_getElem? (i := 768) (by decide +kernel)⟩
theorem lw_p29 : lw_okq (⟨"UphillCarts$Parser", "settle", "(LUphillCarts$Law;I)V"⟩, 11) := ⟨⟨by decide +kernel, by decide +kernel⟩, List.mem_of_getElem? (i := 233) (by decide +kernel), List.mem_of_getElem? (i := 774) (by decide +kernel), List.mem_of_getElem? (i := 775) (by decide +kernel)⟩
theorem lw_p30 : lw_okq (⟨"UphillCarts$Parser", "takesSign", "(LUphillCarts$Law;)Z"⟩, 11) := ⟨⟨by decide +kernel, by decide +kernel⟩, List.mem_of_getElem? (i := 233) (by decide +kernel), List.mem_of_getElem? (i := 778) (by decide +kernel), List.mem_of_getElem? (i := 779) (by decide +kernel)⟩
theorem lw_p31 : lw_okq (⟨"UphillCarts", "isGoods", "(I)Z"⟩, 19) := ⟨⟨by decide +kernel, by decide +kernel⟩, List.mem_of_getElem? (i := 26) (by decide +kernel), List.mem_of_getElem? (i := 797) (by decide +kernel), List.mem_of_getElem? (i := 798) (by decide +kernel)⟩
def lw_privs_2 : List (MethodName × Nat) := [(⟨"UphillCarts$Parser", "bendToldAhead", "(I)I"⟩, 11), (⟨"UphillCarts$Parser", "readThief", "()Z"⟩, 11), (⟨"UphillCarts$Parser", "isToldOnce", "()Z"⟩, 11), (⟨"UphillCarts$Parser", "readWarm", "()Z"⟩, 11), (⟨"UphillCarts$Parser", "readHorse", "()Z"⟩, 11), (⟨"UphillCarts$Parser", "readRope", "()Z"⟩, 11), (⟨"UphillCarts$Parser", "readStone", "()Z"⟩, 11), (⟨"UphillCarts$Parser", "readSeed", "()Z"⟩, 11), (⟨"UphillCarts$Parser", "readLaw", "()Z"⟩, 11), (⟨"UphillCarts$Parser", "takesValue", "(LUphillCarts$Law;)Z"⟩, 11), (⟨"UphillCarts$Parser", "isOneKnotMore", "()Z"⟩, 11), (⟨"UphillCarts$Parser", "push", "(I)V"⟩, 11), (⟨"UphillCarts$Parser", "rankOnTop", "()I"⟩, 11), (⟨"UphillCarts$Parser", "settle", "(LUphillCarts$Law;I)V"⟩, 11), (⟨"UphillCarts$Parser", "takesSign", "(LUphillCarts$Law;)Z"⟩, 11), (⟨"UphillCarts", "isGoods", "(I)Z"⟩, 19)]
theorem lw_r2 : ∀ q ∈ lw_privs_2, lw_okq q := List.forall_mem_cons.mpr ⟨lw_p16, List.forall_mem_cons.mpr ⟨lw_p17, List.forall_mem_cons.mpr ⟨lw_p18, List.forall_mem_cons.mpr ⟨lw_p19, List.forall_mem_cons.mpr ⟨lw_p20, List.forall_mem_cons.mpr ⟨lw_p21, List.forall_mem_cons.mpr ⟨lw_p22, List.forall_mem_cons.mpr ⟨lw_p23, List.forall_mem_cons.mpr ⟨lw_p24, List.forall_mem_cons.mpr ⟨lw_p25, List.forall_mem_cons.mpr ⟨lw_p26, List.forall_mem_cons.mpr ⟨lw_p27, List.forall_mem_cons.mpr ⟨lw_p28, List.forall_mem_cons.mpr ⟨lw_p29, List.forall_mem_cons.mpr ⟨lw_p30, List.forall_mem_cons.mpr ⟨lw_p31, fun _ h => absurd h List.not_mem_nil⟩⟩⟩⟩⟩⟩⟩⟩⟩⟩⟩⟩⟩⟩⟩⟩
theorem lw_p32 : lw_okq (⟨"UphillCarts", "isSort", "(I)Z"⟩, 19) := ⟨⟨by decide +kernel, by decide +kernel⟩, List.mem_of_getElem? (i := 26) (by decide +kernel), List.mem_of_getElem? (i := 805) (by decide +kernel), List.mem_of_getElem? (i := 806) (by decide +kernel)⟩
theorem lw_p33 : lw_okq (⟨"UphillCarts", "isBend", "(I)Z"⟩, 19) := ⟨⟨by decide +kernel, by decide +kernel⟩, List.mem_of_getElem? (i := 26) (by decide +kernel), List.mem_of_getElem? (i := 813) (by decide +kernel), List.mem_of_getElem? (i := 814) (by decide +kernel)⟩
theorem lw_p34 : lw_okq (⟨"UphillCarts", "canBeLoaded", "()Z"⟩, 19) := ⟨⟨by decide +kernel, by decide +kernel⟩, List.mem_of_getElem? (i := 26) (by decide +kernel), List.mem_of_getElem? (i := 895) (by decide +kernel), List.mem_of_getElem? (i := 896) (by decide +kernel)⟩
theorem lw_p35 : lw_okq (⟨"UphillCarts", "remember", "()V"⟩, 19) := ⟨⟨by decide +kernel, by decide +kernel⟩, List.mem_of_getElem? (i := 26) (by decide +kernel), List.mem_of_getElem? (i := 899) (by decide +kernel), List.mem_of_getElem? (i := 900) (by decide +kernel)⟩
theorem lw_p36 : lw_okq (⟨"UphillCarts", "hasWays", "()Z"⟩, 19) := ⟨⟨by decide +kernel, by decide +kernel⟩, List.mem_of_getElem? (i := 26) (by decide +kernel), List.mem_of_getElem? (i := 922) (by decide +kernel), List.mem_of_getElem? (i := 923) (by decide +kernel)⟩
theorem lw_p37 : lw_okq (⟨"UphillCarts$Cart", "meetThief", "(I)V"⟩, 8) := ⟨⟨by decide +kernel, by decide +kernel⟩, List.mem_of_getElem? (i := 486) (by decide +kernel), List.mem_of_getElem? (i := 933) (by decide +kernel), List.mem_of_getElem? (i := 934) (by decide +kernel)⟩
theorem lw_p38 : lw_okq (⟨"UphillCarts", "hoursUp", "()I"⟩, 19) := ⟨⟨by decide +kernel, by decide +kernel⟩, List.mem_of_getElem? (i := 26) (by decide +kernel), List.mem_of_getElem? (i := 961) (by decide +kernel), List.mem_of_getElem? (i := 962) (by decide +kernel)⟩
theorem lw_p39 : lw_okq (⟨"UphillCarts$Loads", "leaveAll", "(LUphillCarts$Road;)V"⟩, 9) := ⟨⟨by decide +kernel, by decide +kernel⟩, List.mem_of_getElem? (i := 390) (by decide +kernel), List.mem_of_getElem? (i := 980) (by decide +kernel), List.mem_of_getElem? (i := 981) (by decide +kernel)⟩
theorem lw_p40 : lw_okq (⟨"UphillCarts$Loads", "isLeft", "(I)Z"⟩, 9) := ⟨⟨by decide +kernel, by decide +kernel⟩, List.mem_of_getElem? (i := 390) (by decide +kernel), List.mem_of_getElem? (i := 992) (by decide +kernel), List.mem_of_getElem? (i := 993) (by decide +kernel)⟩
theorem lw_p41 : lw_okq (⟨"UphillCarts$Loads", "narrow", "(III)V"⟩, 9) := ⟨⟨by decide +kernel, by decide +kernel⟩, List.mem_of_getElem? (i := 390) (by decide +kernel), List.mem_of_getElem? (i := 997) (by decide +kernel), List.mem_of_getElem? (i := 998) (by decide +kernel)⟩
theorem lw_p42 : lw_okq (⟨"UphillCarts$Loads", "howManyStones", "(II)I"⟩, 9) := ⟨⟨by decide +kernel, by decide +kernel⟩, List.mem_of_getElem? (i := 390) (by decide +kernel), List.mem_of_getElem? (i := 1015) (by decide +kernel), List.mem_of_getElem? (i := 1016) (by decide +kernel)⟩
theorem lw_p43 : lw_okq (⟨"UphillCarts$Loads", "mostStones", "(II)I"⟩, 9) := ⟨⟨by decide +kernel, by decide +kernel⟩, List.mem_of_getElem? (i := 390) (by decide +kernel), List.mem_of_getElem? (i := 1019) (by decide +kernel), List.mem_of_getElem? (i := 1020) (by decide +kernel)⟩
theorem lw_p44 : lw_okq (⟨"UphillCarts$Loads", "fewestStones", "(II)I"⟩, 9) := ⟨⟨by decide +kernel, by decide +kernel⟩, List.mem_of_getElem? (i := 390) (by decide +kernel), List.mem_of_getElem? (i := 1026) (by decide +kernel), List.mem_of_getElem? (i := 1027) (by decide +kernel)⟩
theorem lw_p45 : lw_okq (⟨"UphillCarts$Ballast", "choose", "(IIIII)I"⟩, 4) := ⟨⟨by decide +kernel, by decide +kernel⟩, List.mem_of_getElem? (i := 427) (by decide +kernel), List.mem_of_getElem? (i := 1047) (by decide +kernel), List.mem_of_getElem? (i := 1048) (by decide +kernel)⟩
theorem lw_p46 : lw_okq (⟨"UphillCarts$Ballast", "costOf", "(III)I"⟩, 4) := ⟨⟨by decide +kernel, by decide +kernel⟩, List.mem_of_getElem? (i := 427) (by decide +kernel), List.mem_of_getElem? (i := 1052) (by decide +kernel), List.mem_of_getElem? (i := 1053) (by decide +kernel)⟩
theorem lw_p47 : lw_okq (⟨"UphillCarts$Ballast", "follow", "(LUphillCarts$Road;LUphillCarts$Cart;I)I"⟩, 4) := ⟨⟨by decide +kernel, by decide +kernel⟩, List.mem_of_getElem? (i := 427) (by decide +kernel), List.mem_of_getElem? (i := 1056) (by decide +kernel), List.mem_of_getElem? (i := 1057) (by decide +kernel)⟩
def lw_privs_3 : List (MethodName × Nat) := [(⟨"UphillCarts", "isSort", "(I)Z"⟩, 19), (⟨"UphillCarts", "isBend", "(I)Z"⟩, 19), (⟨"UphillCarts", "canBeLoaded", "()Z"⟩, 19), (⟨"UphillCarts", "remember", "()V"⟩, 19), (⟨"UphillCarts", "hasWays", "()Z"⟩, 19), (⟨"UphillCarts$Cart", "meetThief", "(I)V"⟩, 8), (⟨"UphillCarts", "hoursUp", "()I"⟩, 19), (⟨"UphillCarts$Loads", "leaveAll", "(LUphillCarts$Road;)V"⟩, 9), (⟨"UphillCarts$Loads", "isLeft", "(I)Z"⟩, 9), (⟨"UphillCarts$Loads", "narrow", "(III)V"⟩, 9), (⟨"UphillCarts$Loads", "howManyStones", "(II)I"⟩, 9), (⟨"UphillCarts$Loads", "mostStones", "(II)I"⟩, 9), (⟨"UphillCarts$Loads", "fewestStones", "(II)I"⟩, 9), (⟨"UphillCarts$Ballast", "choose", "(IIIII)I"⟩, 4), (⟨"UphillCarts$Ballast", "costOf", "(III)I"⟩, 4), (⟨"UphillCarts$Ballast", "follow", "(LUphillCarts$Road;LUphillCarts$Cart;I)I"⟩, 4)]
theorem lw_r3 : ∀ q ∈ lw_privs_3, lw_okq q := List.forall_mem_cons.mpr ⟨lw_p32, List.forall_mem_cons.mpr ⟨lw_p33, List.forall_mem_cons.mpr ⟨lw_p34, List.forall_mem_cons.mpr ⟨lw_p35, List.forall_mem_cons.mpr ⟨lw_p36, List.forall_mem_cons.mpr ⟨lw_p37, List.forall_mem_cons.mpr ⟨lw_p38, List.forall_mem_cons.mpr ⟨lw_p39, List.forall_mem_cons.mpr ⟨lw_p40, List.forall_mem_cons.mpr ⟨lw_p41, List.forall_mem_cons.mpr ⟨lw_p42, List.forall_mem_cons.mpr ⟨lw_p43, List.forall_mem_cons.mpr ⟨lw_p44, List.forall_mem_cons.mpr ⟨lw_p45, List.forall_mem_cons.mpr ⟨lw_p46, List.forall_mem_cons.mpr ⟨lw_p47, fun _ h => absurd h List.not_mem_nil⟩⟩⟩⟩⟩⟩⟩⟩⟩⟩⟩⟩⟩⟩⟩⟩
theorem lw_p48 : lw_okq (⟨"UphillCarts", "meetingBend", "(II)I"⟩, 19) := ⟨⟨by decide +kernel, by decide +kernel⟩, List.mem_of_getElem? (i := 26) (by decide +kernel), List.mem_of_getElem? (i := 1072) (by decide +kernel), List.mem_of_getElem? (i := 1073) (by decide +kernel)⟩
theorem lw_p49 : lw_okq (⟨"UphillCarts$Loads", "canBeCarried", "(I)Z"⟩, 9) := ⟨⟨by decide +kernel, by decide +kernel⟩, List.mem_of_getElem? (i := 390) (by decide +kernel), List.mem_of_getElem? (i := 1093) (by decide +kernel), List.mem_of_getElem? (i := 1094) (by decide +kernel)⟩
theorem lw_p50 : lw_okq (⟨"UphillCarts", "isTrial", "(II)Z"⟩, 19) := ⟨⟨by decide +kernel, by decide +kernel⟩, List.mem_of_getElem? (i := 26) (by decide +kernel), List.mem_of_getElem? (i := 1176) (by decide +kernel), List.mem_of_getElem? (i := 1177) (by decide +kernel)⟩
theorem lw_p51 : lw_okq (⟨"java/lang/Throwable", "fillInStackTrace", "(I)Ljava/lang/Throwable;"⟩, 6) := ⟨⟨by decide +kernel, by decide +kernel⟩, List.mem_of_getElem? (i := 1247) (by decide +kernel), List.mem_of_getElem? (i := 1245) (by decide +kernel), List.mem_of_getElem? (i := 1246) (by decide +kernel)⟩
theorem lw_p52 : lw_okq (⟨"UphillCartsModel", "begins", "()V"⟩, 76) := ⟨⟨by decide +kernel, by decide +kernel⟩, List.mem_of_getElem? (i := 1293) (by decide +kernel), List.mem_of_getElem? (i := 1299) (by decide +kernel), List.mem_of_getElem? (i := 1300) (by decide +kernel)⟩
theorem lw_p53 : lw_okq (⟨"UphillCartsModel", "reads", "(II)V"⟩, 76) := ⟨⟨by decide +kernel, by decide +kernel⟩, List.mem_of_getElem? (i := 1293) (by decide +kernel), List.mem_of_getElem? (i := 1540) (by decide +kernel), List.mem_of_getElem? (i := 1541) (by decide +kernel)⟩
theorem lw_p54 : lw_okq (⟨"UphillCartsModel", "token", "()V"⟩, 76) := ⟨⟨by decide +kernel, by decide +kernel⟩, List.mem_of_getElem? (i := 1293) (by decide +kernel), List.mem_of_getElem? (i := 1544) (by decide +kernel), List.mem_of_getElem? (i := 1545) (by decide +kernel)⟩
theorem lw_p55 : lw_okq (⟨"UphillCartsModel", "here", "()I"⟩, 76) := ⟨⟨by decide +kernel, by decide +kernel⟩, List.mem_of_getElem? (i := 1293) (by decide +kernel), List.mem_of_getElem? (i := 1548) (by decide +kernel), List.mem_of_getElem? (i := 1549) (by decide +kernel)⟩
theorem lw_p56 : lw_okq (⟨"UphillCartsModel", "word", "()I"⟩, 76) := ⟨⟨by decide +kernel, by decide +kernel⟩, List.mem_of_getElem? (i := 1293) (by decide +kernel), List.mem_of_getElem? (i := 1555) (by decide +kernel), List.mem_of_getElem? (i := 1556) (by decide +kernel)⟩
theorem lw_p57 : lw_okq (⟨"UphillCartsModel", "name", "()V"⟩, 76) := ⟨⟨by decide +kernel, by decide +kernel⟩, List.mem_of_getElem? (i := 1293) (by decide +kernel), List.mem_of_getElem? (i := 1562) (by decide +kernel), List.mem_of_getElem? (i := 1563) (by decide +kernel)⟩
theorem lw_p58 : lw_okq (⟨"UphillCartsModel", "sign", "(I)V"⟩, 76) := ⟨⟨by decide +kernel, by decide +kernel⟩, List.mem_of_getElem? (i := 1293) (by decide +kernel), List.mem_of_getElem? (i := 1570) (by decide +kernel), List.mem_of_getElem? (i := 1571) (by decide +kernel)⟩
theorem lw_p59 : lw_okq (⟨"UphillCartsModel", "line", "()V"⟩, 76) := ⟨⟨by decide +kernel, by decide +kernel⟩, List.mem_of_getElem? (i := 1293) (by decide +kernel), List.mem_of_getElem? (i := 1574) (by decide +kernel), List.mem_of_getElem? (i := 1575) (by decide +kernel)⟩
theorem lw_p60 : lw_okq (⟨"UphillCartsModel", "wrong", "(I)V"⟩, 76) := ⟨⟨by decide +kernel, by decide +kernel⟩, List.mem_of_getElem? (i := 1293) (by decide +kernel), List.mem_of_getElem? (i := 1578) (by decide +kernel), List.mem_of_getElem? (i := 1579) (by decide +kernel)⟩
theorem lw_p61 : lw_okq (⟨"UphillCartsModel", "isFull", "(I)Z"⟩, 76) := ⟨⟨by decide +kernel, by decide +kernel⟩, List.mem_of_getElem? (i := 1293) (by decide +kernel), List.mem_of_getElem? (i := 1582) (by decide +kernel), List.mem_of_getElem? (i := 1583) (by decide +kernel)⟩
theorem lw_p62 : lw_okq (⟨"UphillCartsModel", "fresher", "(I)I"⟩, 76) := ⟨⟨by decide +kernel, by decide +kernel⟩, List.mem_of_getElem? (i := 1293) (by decide +kernel), List.mem_of_getElem? (i := 1586) (by decide +kernel), List.mem_of_getElem? (i := 1587) (by decide +kernel)⟩
theorem lw_p63 : lw_okq (⟨"UphillCartsModel", "bendLine", "(I)V"⟩, 76) := ⟨⟨by decide +kernel, by decide +kernel⟩, List.mem_of_getElem? (i := 1293) (by decide +kernel), List.mem_of_getElem? (i := 1590) (by decide +kernel), List.mem_of_getElem? (i := 1591) (by decide +kernel)⟩
def lw_privs_4 : List (MethodName × Nat) := [(⟨"UphillCarts", "meetingBend", "(II)I"⟩, 19), (⟨"UphillCarts$Loads", "canBeCarried", "(I)Z"⟩, 9), (⟨"UphillCarts", "isTrial", "(II)Z"⟩, 19), (⟨"java/lang/Throwable", "fillInStackTrace", "(I)Ljava/lang/Throwable;"⟩, 6), (⟨"UphillCartsModel", "begins", "()V"⟩, 76), (⟨"UphillCartsModel", "reads", "(II)V"⟩, 76), (⟨"UphillCartsModel", "token", "()V"⟩, 76), (⟨"UphillCartsModel", "here", "()I"⟩, 76), (⟨"UphillCartsModel", "word", "()I"⟩, 76), (⟨"UphillCartsModel", "name", "()V"⟩, 76), (⟨"UphillCartsModel", "sign", "(I)V"⟩, 76), (⟨"UphillCartsModel", "line", "()V"⟩, 76), (⟨"UphillCartsModel", "wrong", "(I)V"⟩, 76), (⟨"UphillCartsModel", "isFull", "(I)Z"⟩, 76), (⟨"UphillCartsModel", "fresher", "(I)I"⟩, 76), (⟨"UphillCartsModel", "bendLine", "(I)V"⟩, 76)]
theorem lw_r4 : ∀ q ∈ lw_privs_4, lw_okq q := List.forall_mem_cons.mpr ⟨lw_p48, List.forall_mem_cons.mpr ⟨lw_p49, List.forall_mem_cons.mpr ⟨lw_p50, List.forall_mem_cons.mpr ⟨lw_p51, List.forall_mem_cons.mpr ⟨lw_p52, List.forall_mem_cons.mpr ⟨lw_p53, List.forall_mem_cons.mpr ⟨lw_p54, List.forall_mem_cons.mpr ⟨lw_p55, List.forall_mem_cons.mpr ⟨lw_p56, List.forall_mem_cons.mpr ⟨lw_p57, List.forall_mem_cons.mpr ⟨lw_p58, List.forall_mem_cons.mpr ⟨lw_p59, List.forall_mem_cons.mpr ⟨lw_p60, List.forall_mem_cons.mpr ⟨lw_p61, List.forall_mem_cons.mpr ⟨lw_p62, List.forall_mem_cons.mpr ⟨lw_p63, fun _ h => absurd h List.not_mem_nil⟩⟩⟩⟩⟩⟩⟩⟩⟩⟩⟩⟩⟩⟩⟩⟩
theorem lw_p64 : lw_okq (⟨"UphillCartsModel", "fresh", "([III)I"⟩, 76) := ⟨⟨by decide +kernel, by decide +kernel⟩, List.mem_of_getElem? (i := 1293) (by decide +kernel), List.mem_of_getElem? (i := 1594) (by decide +kernel), List.mem_of_getElem? (i := 1595) (by decide +kernel)⟩
theorem lw_p65 : lw_okq (⟨"UphillCartsModel", "numeral", "(II)I"⟩, 76) := ⟨⟨by decide +kernel, by decide +kernel⟩, List.mem_of_getElem? (i := 1293) (by decide +kernel), List.mem_of_getElem? (i := 1601) (by decide +kernel), List.mem_of_getElem? (i := 1602) (by decide +kernel)⟩
theorem lw_p66 : lw_okq (⟨"UphillCartsModel", "isWord", "(I)Z"⟩, 76) := ⟨⟨by decide +kernel, by decide +kernel⟩, List.mem_of_getElem? (i := 1293) (by decide +kernel), List.mem_of_getElem? (i := 1605) (by decide +kernel), List.mem_of_getElem? (i := 1606) (by decide +kernel)⟩
theorem lw_p67 : lw_okq (⟨"UphillCartsModel", "isSign", "(I)Z"⟩, 76) := ⟨⟨by decide +kernel, by decide +kernel⟩, List.mem_of_getElem? (i := 1293) (by decide +kernel), List.mem_of_getElem? (i := 1609) (by decide +kernel), List.mem_of_getElem? (i := 1610) (by decide +kernel)⟩
theorem lw_p68 : lw_okq (⟨"UphillCartsModel", "bendAtHand", "(I)I"⟩, 76) := ⟨⟨by decide +kernel, by decide +kernel⟩, List.mem_of_getElem? (i := 1293) (by decide +kernel), List.mem_of_getElem? (i := 1613) (by decide +kernel), List.mem_of_getElem? (i := 1614) (by decide +kernel)⟩
theorem lw_p69 : lw_okq (⟨"UphillCartsModel", "goOn", "()V"⟩, 76) := ⟨⟨by decide +kernel, by decide +kernel⟩, List.mem_of_getElem? (i := 1293) (by decide +kernel), List.mem_of_getElem? (i := 1617) (by decide +kernel), List.mem_of_getElem? (i := 1618) (by decide +kernel)⟩
theorem lw_p70 : lw_okq (⟨"UphillCartsModel", "warmLine", "()V"⟩, 76) := ⟨⟨by decide +kernel, by decide +kernel⟩, List.mem_of_getElem? (i := 1293) (by decide +kernel), List.mem_of_getElem? (i := 1621) (by decide +kernel), List.mem_of_getElem? (i := 1622) (by decide +kernel)⟩
theorem lw_p71 : lw_okq (⟨"UphillCartsModel", "lawLine", "()V"⟩, 76) := ⟨⟨by decide +kernel, by decide +kernel⟩, List.mem_of_getElem? (i := 1293) (by decide +kernel), List.mem_of_getElem? (i := 1625) (by decide +kernel), List.mem_of_getElem? (i := 1626) (by decide +kernel)⟩
theorem lw_p72 : lw_okq (⟨"UphillCartsModel", "expression", "()V"⟩, 76) := ⟨⟨by decide +kernel, by decide +kernel⟩, List.mem_of_getElem? (i := 1293) (by decide +kernel), List.mem_of_getElem? (i := 1629) (by decide +kernel), List.mem_of_getElem? (i := 1630) (by decide +kernel)⟩
theorem lw_p73 : lw_okq (⟨"UphillCartsModel", "conjunction", "()V"⟩, 76) := ⟨⟨by decide +kernel, by decide +kernel⟩, List.mem_of_getElem? (i := 1293) (by decide +kernel), List.mem_of_getElem? (i := 1633) (by decide +kernel), List.mem_of_getElem? (i := 1634) (by decide +kernel)⟩
theorem lw_p74 : lw_okq (⟨"UphillCartsModel", "negation", "()V"⟩, 76) := ⟨⟨by decide +kernel, by decide +kernel⟩, List.mem_of_getElem? (i := 1293) (by decide +kernel), List.mem_of_getElem? (i := 1637) (by decide +kernel), List.mem_of_getElem? (i := 1638) (by decide +kernel)⟩
theorem lw_p75 : lw_okq (⟨"UphillCartsModel", "knot", "()V"⟩, 76) := ⟨⟨by decide +kernel, by decide +kernel⟩, List.mem_of_getElem? (i := 1293) (by decide +kernel), List.mem_of_getElem? (i := 1641) (by decide +kernel), List.mem_of_getElem? (i := 1642) (by decide +kernel)⟩
theorem lw_p76 : lw_okq (⟨"UphillCartsModel", "puts", "(II)V"⟩, 76) := ⟨⟨by decide +kernel, by decide +kernel⟩, List.mem_of_getElem? (i := 1293) (by decide +kernel), List.mem_of_getElem? (i := 1645) (by decide +kernel), List.mem_of_getElem? (i := 1646) (by decide +kernel)⟩
theorem lw_p77 : lw_okq (⟨"UphillCartsModel", "sum", "()V"⟩, 76) := ⟨⟨by decide +kernel, by decide +kernel⟩, List.mem_of_getElem? (i := 1293) (by decide +kernel), List.mem_of_getElem? (i := 1649) (by decide +kernel), List.mem_of_getElem? (i := 1650) (by decide +kernel)⟩
theorem lw_p78 : lw_okq (⟨"UphillCartsModel", "product", "()V"⟩, 76) := ⟨⟨by decide +kernel, by decide +kernel⟩, List.mem_of_getElem? (i := 1293) (by decide +kernel), List.mem_of_getElem? (i := 1653) (by decide +kernel), List.mem_of_getElem? (i := 1654) (by decide +kernel)⟩
theorem lw_p79 : lw_okq (⟨"UphillCartsModel", "primary", "()V"⟩, 76) := ⟨⟨by decide +kernel, by decide +kernel⟩, List.mem_of_getElem? (i := 1293) (by decide +kernel), List.mem_of_getElem? (i := 1657) (by decide +kernel), List.mem_of_getElem? (i := 1658) (by decide +kernel)⟩
def lw_privs_5 : List (MethodName × Nat) := [(⟨"UphillCartsModel", "fresh", "([III)I"⟩, 76), (⟨"UphillCartsModel", "numeral", "(II)I"⟩, 76), (⟨"UphillCartsModel", "isWord", "(I)Z"⟩, 76), (⟨"UphillCartsModel", "isSign", "(I)Z"⟩, 76), (⟨"UphillCartsModel", "bendAtHand", "(I)I"⟩, 76), (⟨"UphillCartsModel", "goOn", "()V"⟩, 76), (⟨"UphillCartsModel", "warmLine", "()V"⟩, 76), (⟨"UphillCartsModel", "lawLine", "()V"⟩, 76), (⟨"UphillCartsModel", "expression", "()V"⟩, 76), (⟨"UphillCartsModel", "conjunction", "()V"⟩, 76), (⟨"UphillCartsModel", "negation", "()V"⟩, 76), (⟨"UphillCartsModel", "knot", "()V"⟩, 76), (⟨"UphillCartsModel", "puts", "(II)V"⟩, 76), (⟨"UphillCartsModel", "sum", "()V"⟩, 76), (⟨"UphillCartsModel", "product", "()V"⟩, 76), (⟨"UphillCartsModel", "primary", "()V"⟩, 76)]
theorem lw_r5 : ∀ q ∈ lw_privs_5, lw_okq q := List.forall_mem_cons.mpr ⟨lw_p64, List.forall_mem_cons.mpr ⟨lw_p65, List.forall_mem_cons.mpr ⟨lw_p66, List.forall_mem_cons.mpr ⟨lw_p67, List.forall_mem_cons.mpr ⟨lw_p68, List.forall_mem_cons.mpr ⟨lw_p69, List.forall_mem_cons.mpr ⟨lw_p70, List.forall_mem_cons.mpr ⟨lw_p71, List.forall_mem_cons.mpr ⟨lw_p72, List.forall_mem_cons.mpr ⟨lw_p73, List.forall_mem_cons.mpr ⟨lw_p74, List.forall_mem_cons.mpr ⟨lw_p75, List.forall_mem_cons.mpr ⟨lw_p76, List.forall_mem_cons.mpr ⟨lw_p77, List.forall_mem_cons.mpr ⟨lw_p78, List.forall_mem_cons.mpr ⟨lw_p79, fun _ h => absurd h List.not_mem_nil⟩⟩⟩⟩⟩⟩⟩⟩⟩⟩⟩⟩⟩⟩⟩⟩
theorem lw_p80 : lw_okq (⟨"UphillCartsModel", "isBend", "(I)Z"⟩, 76) := ⟨⟨by decide +kernel, by decide +kernel⟩, List.mem_of_getElem? (i := 1293) (by decide +kernel), List.mem_of_getElem? (i := 1676) (by decide +kernel), List.mem_of_getElem? (i := 1677) (by decide +kernel)⟩
theorem lw_p81 : lw_okq (⟨"UphillCartsModel", "slopeTo", "(I)I"⟩, 76) := ⟨⟨by decide +kernel, by decide +kernel⟩, List.mem_of_getElem? (i := 1293) (by decide +kernel), List.mem_of_getElem? (i := 1680) (by decide +kernel), List.mem_of_getElem? (i := 1681) (by decide +kernel)⟩
theorem lw_p82 : lw_okq (⟨"UphillCartsModel", "isGoods", "(I)Z"⟩, 76) := ⟨⟨by decide +kernel, by decide +kernel⟩, List.mem_of_getElem? (i := 1293) (by decide +kernel), List.mem_of_getElem? (i := 1689) (by decide +kernel), List.mem_of_getElem? (i := 1690) (by decide +kernel)⟩
theorem lw_p83 : lw_okq (⟨"UphillCartsModel", "isSort", "(I)Z"⟩, 76) := ⟨⟨by decide +kernel, by decide +kernel⟩, List.mem_of_getElem? (i := 1293) (by decide +kernel), List.mem_of_getElem? (i := 1697) (by decide +kernel), List.mem_of_getElem? (i := 1698) (by decide +kernel)⟩
theorem lw_p84 : lw_okq (⟨"UphillCartsModel", "liftOf", "(III)I"⟩, 76) := ⟨⟨by decide +kernel, by decide +kernel⟩, List.mem_of_getElem? (i := 1293) (by decide +kernel), List.mem_of_getElem? (i := 1708) (by decide +kernel), List.mem_of_getElem? (i := 1709) (by decide +kernel)⟩
theorem lw_p85 : lw_okq (⟨"UphillCartsModel", "calls", "(III)V"⟩, 76) := ⟨⟨by decide +kernel, by decide +kernel⟩, List.mem_of_getElem? (i := 1293) (by decide +kernel), List.mem_of_getElem? (i := 1712) (by decide +kernel), List.mem_of_getElem? (i := 1713) (by decide +kernel)⟩
theorem lw_p86 : lw_okq (⟨"UphillCartsModel", "within", "(III)I"⟩, 76) := ⟨⟨by decide +kernel, by decide +kernel⟩, List.mem_of_getElem? (i := 1293) (by decide +kernel), List.mem_of_getElem? (i := 1718) (by decide +kernel), List.mem_of_getElem? (i := 1719) (by decide +kernel)⟩
theorem lw_p87 : lw_okq (⟨"UphillCartsModel", "hasLaw", "(I)Z"⟩, 76) := ⟨⟨by decide +kernel, by decide +kernel⟩, List.mem_of_getElem? (i := 1293) (by decide +kernel), List.mem_of_getElem? (i := 1722) (by decide +kernel), List.mem_of_getElem? (i := 1723) (by decide +kernel)⟩
theorem lw_p88 : lw_okq (⟨"UphillCartsModel", "goes", "(I)Z"⟩, 76) := ⟨⟨by decide +kernel, by decide +kernel⟩, List.mem_of_getElem? (i := 1293) (by decide +kernel), List.mem_of_getElem? (i := 1726) (by decide +kernel), List.mem_of_getElem? (i := 1727) (by decide +kernel)⟩
theorem lw_p89 : lw_okq (⟨"UphillCartsModel", "works", "(I)Z"⟩, 76) := ⟨⟨by decide +kernel, by decide +kernel⟩, List.mem_of_getElem? (i := 1293) (by decide +kernel), List.mem_of_getElem? (i := 1730) (by decide +kernel), List.mem_of_getElem? (i := 1731) (by decide +kernel)⟩
theorem lw_p90 : lw_okq (⟨"UphillCartsModel", "pullOf", "(II)I"⟩, 76) := ⟨⟨by decide +kernel, by decide +kernel⟩, List.mem_of_getElem? (i := 1293) (by decide +kernel), List.mem_of_getElem? (i := 1748) (by decide +kernel), List.mem_of_getElem? (i := 1749) (by decide +kernel)⟩
theorem lw_p91 : lw_okq (⟨"UphillCartsModel", "strong", "()I"⟩, 76) := ⟨⟨by decide +kernel, by decide +kernel⟩, List.mem_of_getElem? (i := 1293) (by decide +kernel), List.mem_of_getElem? (i := 1752) (by decide +kernel), List.mem_of_getElem? (i := 1753) (by decide +kernel)⟩
theorem lw_p92 : lw_okq (⟨"UphillCartsModel", "layLaws", "()V"⟩, 76) := ⟨⟨by decide +kernel, by decide +kernel⟩, List.mem_of_getElem? (i := 1293) (by decide +kernel), List.mem_of_getElem? (i := 1761) (by decide +kernel), List.mem_of_getElem? (i := 1762) (by decide +kernel)⟩
theorem lw_p93 : lw_okq (⟨"UphillCartsModel", "netOf", "(IIIII)I"⟩, 76) := ⟨⟨by decide +kernel, by decide +kernel⟩, List.mem_of_getElem? (i := 1293) (by decide +kernel), List.mem_of_getElem? (i := 1765) (by decide +kernel), List.mem_of_getElem? (i := 1766) (by decide +kernel)⟩
theorem lw_p94 : lw_okq (⟨"UphillCartsModel", "isBelow", "()Z"⟩, 76) := ⟨⟨by decide +kernel, by decide +kernel⟩, List.mem_of_getElem? (i := 1293) (by decide +kernel), List.mem_of_getElem? (i := 1778) (by decide +kernel), List.mem_of_getElem? (i := 1779) (by decide +kernel)⟩
theorem lw_p95 : lw_okq (⟨"UphillCartsModel", "keepNow", "()V"⟩, 76) := ⟨⟨by decide +kernel, by decide +kernel⟩, List.mem_of_getElem? (i := 1293) (by decide +kernel), List.mem_of_getElem? (i := 1782) (by decide +kernel), List.mem_of_getElem? (i := 1783) (by decide +kernel)⟩
def lw_privs_6 : List (MethodName × Nat) := [(⟨"UphillCartsModel", "isBend", "(I)Z"⟩, 76), (⟨"UphillCartsModel", "slopeTo", "(I)I"⟩, 76), (⟨"UphillCartsModel", "isGoods", "(I)Z"⟩, 76), (⟨"UphillCartsModel", "isSort", "(I)Z"⟩, 76), (⟨"UphillCartsModel", "liftOf", "(III)I"⟩, 76), (⟨"UphillCartsModel", "calls", "(III)V"⟩, 76), (⟨"UphillCartsModel", "within", "(III)I"⟩, 76), (⟨"UphillCartsModel", "hasLaw", "(I)Z"⟩, 76), (⟨"UphillCartsModel", "goes", "(I)Z"⟩, 76), (⟨"UphillCartsModel", "works", "(I)Z"⟩, 76), (⟨"UphillCartsModel", "pullOf", "(II)I"⟩, 76), (⟨"UphillCartsModel", "strong", "()I"⟩, 76), (⟨"UphillCartsModel", "layLaws", "()V"⟩, 76), (⟨"UphillCartsModel", "netOf", "(IIIII)I"⟩, 76), (⟨"UphillCartsModel", "isBelow", "()Z"⟩, 76), (⟨"UphillCartsModel", "keepNow", "()V"⟩, 76)]
theorem lw_r6 : ∀ q ∈ lw_privs_6, lw_okq q := List.forall_mem_cons.mpr ⟨lw_p80, List.forall_mem_cons.mpr ⟨lw_p81, List.forall_mem_cons.mpr ⟨lw_p82, List.forall_mem_cons.mpr ⟨lw_p83, List.forall_mem_cons.mpr ⟨lw_p84, List.forall_mem_cons.mpr ⟨lw_p85, List.forall_mem_cons.mpr ⟨lw_p86, List.forall_mem_cons.mpr ⟨lw_p87, List.forall_mem_cons.mpr ⟨lw_p88, List.forall_mem_cons.mpr ⟨lw_p89, List.forall_mem_cons.mpr ⟨lw_p90, List.forall_mem_cons.mpr ⟨lw_p91, List.forall_mem_cons.mpr ⟨lw_p92, List.forall_mem_cons.mpr ⟨lw_p93, List.forall_mem_cons.mpr ⟨lw_p94, List.forall_mem_cons.mpr ⟨lw_p95, fun _ h => absurd h List.not_mem_nil⟩⟩⟩⟩⟩⟩⟩⟩⟩⟩⟩⟩⟩⟩⟩⟩
theorem lw_p96 : lw_okq (⟨"UphillCartsModel", "copies", "(II)V"⟩, 76) := ⟨⟨by decide +kernel, by decide +kernel⟩, List.mem_of_getElem? (i := 1293) (by decide +kernel), List.mem_of_getElem? (i := 1786) (by decide +kernel), List.mem_of_getElem? (i := 1787) (by decide +kernel)⟩
theorem lw_p97 : lw_okq (⟨"UphillCartsModel", "passes", "(I)V"⟩, 76) := ⟨⟨by decide +kernel, by decide +kernel⟩, List.mem_of_getElem? (i := 1293) (by decide +kernel), List.mem_of_getElem? (i := 1806) (by decide +kernel), List.mem_of_getElem? (i := 1807) (by decide +kernel)⟩
theorem lw_p98 : lw_okq (⟨"UphillCartsModel", "netAt", "(III)I"⟩, 76) := ⟨⟨by decide +kernel, by decide +kernel⟩, List.mem_of_getElem? (i := 1293) (by decide +kernel), List.mem_of_getElem? (i := 1810) (by decide +kernel), List.mem_of_getElem? (i := 1811) (by decide +kernel)⟩
theorem lw_p99 : lw_okq (⟨"UphillCartsModel", "draw", "(I)I"⟩, 76) := ⟨⟨by decide +kernel, by decide +kernel⟩, List.mem_of_getElem? (i := 1293) (by decide +kernel), List.mem_of_getElem? (i := 1814) (by decide +kernel), List.mem_of_getElem? (i := 1815) (by decide +kernel)⟩
theorem lw_p100 : lw_okq (⟨"UphillCartsModel", "cuts", "(I)V"⟩, 76) := ⟨⟨by decide +kernel, by decide +kernel⟩, List.mem_of_getElem? (i := 1293) (by decide +kernel), List.mem_of_getElem? (i := 1820) (by decide +kernel), List.mem_of_getElem? (i := 1821) (by decide +kernel)⟩
theorem lw_p101 : lw_okq (⟨"UphillCartsModel", "isFrom", "(I)Z"⟩, 76) := ⟨⟨by decide +kernel, by decide +kernel⟩, List.mem_of_getElem? (i := 1293) (by decide +kernel), List.mem_of_getElem? (i := 1832) (by decide +kernel), List.mem_of_getElem? (i := 1833) (by decide +kernel)⟩
theorem lw_p102 : lw_okq (⟨"UphillCartsModel", "wayNow", "(I)I"⟩, 76) := ⟨⟨by decide +kernel, by decide +kernel⟩, List.mem_of_getElem? (i := 1293) (by decide +kernel), List.mem_of_getElem? (i := 1836) (by decide +kernel), List.mem_of_getElem? (i := 1837) (by decide +kernel)⟩
theorem lw_p103 : lw_okq (⟨"UphillCartsModel", "way", "(IIIII)I"⟩, 76) := ⟨⟨by decide +kernel, by decide +kernel⟩, List.mem_of_getElem? (i := 1293) (by decide +kernel), List.mem_of_getElem? (i := 1840) (by decide +kernel), List.mem_of_getElem? (i := 1841) (by decide +kernel)⟩
theorem lw_p104 : lw_okq (⟨"UphillCartsModel", "whenUp", "()I"⟩, 76) := ⟨⟨by decide +kernel, by decide +kernel⟩, List.mem_of_getElem? (i := 1293) (by decide +kernel), List.mem_of_getElem? (i := 1848) (by decide +kernel), List.mem_of_getElem? (i := 1849) (by decide +kernel)⟩
theorem lw_p105 : lw_okq (⟨"UphillCartsModel", "layMost", "(I)V"⟩, 76) := ⟨⟨by decide +kernel, by decide +kernel⟩, List.mem_of_getElem? (i := 1293) (by decide +kernel), List.mem_of_getElem? (i := 1860) (by decide +kernel), List.mem_of_getElem? (i := 1861) (by decide +kernel)⟩
theorem lw_p106 : lw_okq (⟨"UphillCartsModel", "gainOf", "(I)I"⟩, 76) := ⟨⟨by decide +kernel, by decide +kernel⟩, List.mem_of_getElem? (i := 1293) (by decide +kernel), List.mem_of_getElem? (i := 1864) (by decide +kernel), List.mem_of_getElem? (i := 1865) (by decide +kernel)⟩
theorem lw_p107 : lw_okq (⟨"UphillCartsModel", "poundsOf", "(I)I"⟩, 76) := ⟨⟨by decide +kernel, by decide +kernel⟩, List.mem_of_getElem? (i := 1293) (by decide +kernel), List.mem_of_getElem? (i := 1868) (by decide +kernel), List.mem_of_getElem? (i := 1869) (by decide +kernel)⟩
theorem lw_p108 : lw_okq (⟨"UphillCartsModel", "areBags", "(I)Z"⟩, 76) := ⟨⟨by decide +kernel, by decide +kernel⟩, List.mem_of_getElem? (i := 1293) (by decide +kernel), List.mem_of_getElem? (i := 1872) (by decide +kernel), List.mem_of_getElem? (i := 1873) (by decide +kernel)⟩
theorem lw_p109 : lw_okq (⟨"UphillCartsModel", "layBallast", "(I)V"⟩, 76) := ⟨⟨by decide +kernel, by decide +kernel⟩, List.mem_of_getElem? (i := 1293) (by decide +kernel), List.mem_of_getElem? (i := 1884) (by decide +kernel), List.mem_of_getElem? (i := 1885) (by decide +kernel)⟩
theorem lw_p110 : lw_okq (⟨"UphillCartsModel", "changesBy", "(IIII)I"⟩, 76) := ⟨⟨by decide +kernel, by decide +kernel⟩, List.mem_of_getElem? (i := 1293) (by decide +kernel), List.mem_of_getElem? (i := 1888) (by decide +kernel), List.mem_of_getElem? (i := 1889) (by decide +kernel)⟩
theorem lw_p111 : lw_okq (⟨"UphillCartsModel", "comesOn", "(III)Z"⟩, 76) := ⟨⟨by decide +kernel, by decide +kernel⟩, List.mem_of_getElem? (i := 1293) (by decide +kernel), List.mem_of_getElem? (i := 1892) (by decide +kernel), List.mem_of_getElem? (i := 1893) (by decide +kernel)⟩
def lw_privs_7 : List (MethodName × Nat) := [(⟨"UphillCartsModel", "copies", "(II)V"⟩, 76), (⟨"UphillCartsModel", "passes", "(I)V"⟩, 76), (⟨"UphillCartsModel", "netAt", "(III)I"⟩, 76), (⟨"UphillCartsModel", "draw", "(I)I"⟩, 76), (⟨"UphillCartsModel", "cuts", "(I)V"⟩, 76), (⟨"UphillCartsModel", "isFrom", "(I)Z"⟩, 76), (⟨"UphillCartsModel", "wayNow", "(I)I"⟩, 76), (⟨"UphillCartsModel", "way", "(IIIII)I"⟩, 76), (⟨"UphillCartsModel", "whenUp", "()I"⟩, 76), (⟨"UphillCartsModel", "layMost", "(I)V"⟩, 76), (⟨"UphillCartsModel", "gainOf", "(I)I"⟩, 76), (⟨"UphillCartsModel", "poundsOf", "(I)I"⟩, 76), (⟨"UphillCartsModel", "areBags", "(I)Z"⟩, 76), (⟨"UphillCartsModel", "layBallast", "(I)V"⟩, 76), (⟨"UphillCartsModel", "changesBy", "(IIII)I"⟩, 76), (⟨"UphillCartsModel", "comesOn", "(III)Z"⟩, 76)]
theorem lw_r7 : ∀ q ∈ lw_privs_7, lw_okq q := List.forall_mem_cons.mpr ⟨lw_p96, List.forall_mem_cons.mpr ⟨lw_p97, List.forall_mem_cons.mpr ⟨lw_p98, List.forall_mem_cons.mpr ⟨lw_p99, List.forall_mem_cons.mpr ⟨lw_p100, List.forall_mem_cons.mpr ⟨lw_p101, List.forall_mem_cons.mpr ⟨lw_p102, List.forall_mem_cons.mpr ⟨lw_p103, List.forall_mem_cons.mpr ⟨lw_p104, List.forall_mem_cons.mpr ⟨lw_p105, List.forall_mem_cons.mpr ⟨lw_p106, List.forall_mem_cons.mpr ⟨lw_p107, List.forall_mem_cons.mpr ⟨lw_p108, List.forall_mem_cons.mpr ⟨lw_p109, List.forall_mem_cons.mpr ⟨lw_p110, List.forall_mem_cons.mpr ⟨lw_p111, fun _ h => absurd h List.not_mem_nil⟩⟩⟩⟩⟩⟩⟩⟩⟩⟩⟩⟩⟩⟩⟩⟩
theorem lw_p112 : lw_okq (⟨"UphillCartsModel", "isHeld", "(III)Z"⟩, 76) := ⟨⟨by decide +kernel, by decide +kernel⟩, List.mem_of_getElem? (i := 1293) (by decide +kernel), List.mem_of_getElem? (i := 1896) (by decide +kernel), List.mem_of_getElem? (i := 1897) (by decide +kernel)⟩
theorem lw_p113 : lw_okq (⟨"UphillCartsModel", "isMeet", "(II)Z"⟩, 76) := ⟨⟨by decide +kernel, by decide +kernel⟩, List.mem_of_getElem? (i := 1293) (by decide +kernel), List.mem_of_getElem? (i := 1913) (by decide +kernel), List.mem_of_getElem? (i := 1914) (by decide +kernel)⟩
theorem lw_p114 : lw_okq (⟨"UphillCartsModel", "meetOf", "(II)I"⟩, 76) := ⟨⟨by decide +kernel, by decide +kernel⟩, List.mem_of_getElem? (i := 1293) (by decide +kernel), List.mem_of_getElem? (i := 1917) (by decide +kernel), List.mem_of_getElem? (i := 1918) (by decide +kernel)⟩
theorem lw_p115 : lw_okq (⟨"UphillCartsModel", "layFits", "(I)V"⟩, 76) := ⟨⟨by decide +kernel, by decide +kernel⟩, List.mem_of_getElem? (i := 1293) (by decide +kernel), List.mem_of_getElem? (i := 1949) (by decide +kernel), List.mem_of_getElem? (i := 1950) (by decide +kernel)⟩
theorem lw_p116 : lw_okq (⟨"UphillCartsModel", "knownMany", "()I"⟩, 76) := ⟨⟨by decide +kernel, by decide +kernel⟩, List.mem_of_getElem? (i := 1293) (by decide +kernel), List.mem_of_getElem? (i := 1953) (by decide +kernel), List.mem_of_getElem? (i := 1954) (by decide +kernel)⟩
theorem lw_p117 : lw_okq (⟨"UphillCartsModel", "fitsBy", "(III)Z"⟩, 76) := ⟨⟨by decide +kernel, by decide +kernel⟩, List.mem_of_getElem? (i := 1293) (by decide +kernel), List.mem_of_getElem? (i := 1957) (by decide +kernel), List.mem_of_getElem? (i := 1958) (by decide +kernel)⟩
theorem lw_p118 : lw_okq (⟨"UphillCartsModel", "oneFits", "(III)V"⟩, 76) := ⟨⟨by decide +kernel, by decide +kernel⟩, List.mem_of_getElem? (i := 1293) (by decide +kernel), List.mem_of_getElem? (i := 1961) (by decide +kernel), List.mem_of_getElem? (i := 1962) (by decide +kernel)⟩
def lw_privs_8 : List (MethodName × Nat) := [(⟨"UphillCartsModel", "isHeld", "(III)Z"⟩, 76), (⟨"UphillCartsModel", "isMeet", "(II)Z"⟩, 76), (⟨"UphillCartsModel", "meetOf", "(II)I"⟩, 76), (⟨"UphillCartsModel", "layFits", "(I)V"⟩, 76), (⟨"UphillCartsModel", "knownMany", "()I"⟩, 76), (⟨"UphillCartsModel", "fitsBy", "(III)Z"⟩, 76), (⟨"UphillCartsModel", "oneFits", "(III)V"⟩, 76)]
theorem lw_r8 : ∀ q ∈ lw_privs_8, lw_okq q := List.forall_mem_cons.mpr ⟨lw_p112, List.forall_mem_cons.mpr ⟨lw_p113, List.forall_mem_cons.mpr ⟨lw_p114, List.forall_mem_cons.mpr ⟨lw_p115, List.forall_mem_cons.mpr ⟨lw_p116, List.forall_mem_cons.mpr ⟨lw_p117, List.forall_mem_cons.mpr ⟨lw_p118, fun _ h => absurd h List.not_mem_nil⟩⟩⟩⟩⟩⟩⟩
def lw_privs : List (MethodName × Nat) := lw_privs_1 ++ (lw_privs_2 ++ (lw_privs_3 ++ (lw_privs_4 ++ (lw_privs_5 ++ (lw_privs_6 ++ (lw_privs_7 ++ (lw_privs_8)))))))
def lw_tbl : List Cond := k2_sels lw_privs ++ tables_1
theorem lw_privs_ok : ∀ q ∈ lw_privs, lw_okq q := by
  show ∀ q ∈ lw_privs_1 ++ (lw_privs_2 ++ (lw_privs_3 ++ (lw_privs_4 ++ (lw_privs_5 ++ (lw_privs_6 ++ (lw_privs_7 ++ (lw_privs_8))))))), lw_okq q
  exact List.forall_mem_append.mpr ⟨lw_r1, List.forall_mem_append.mpr ⟨lw_r2, List.forall_mem_append.mpr ⟨lw_r3, List.forall_mem_append.mpr ⟨lw_r4, List.forall_mem_append.mpr ⟨lw_r5, List.forall_mem_append.mpr ⟨lw_r6, List.forall_mem_append.mpr ⟨lw_r7, lw_r8⟩⟩⟩⟩⟩⟩⟩
theorem goodIn_r {big : List Cond} (ws : List Cond) (ps : List Nat) (hp : ws = ps.filterMap (fun i => big[i]?)) (h : ws.all goodWord = true) : GoodIn big ws := by
  intro w hw
  have h1 := List.all_eq_true.mp h w hw
  rw [hp] at hw
  obtain ⟨i, -, hi⟩ := List.mem_filterMap.mp hw
  have hm : w ∈ big := by first | exact List.mem_of_getElem? hi | exact List.getElem?_mem hi
  exact ⟨hm, good_of_word h1⟩
theorem goodIn_app {big a b : List Cond} (ha : GoodIn big a) (hb : GoodIn big b) : GoodIn big (a ++ b) := fun w h => (List.mem_append.mp h).elim (ha w) (hb w)
theorem goodIn_ca {big a b : List Cond} {c : Cond} (ha : GoodIn big (c :: a)) (hb : GoodIn big b) : GoodIn big (c :: (a ++ b)) := fun w h => (List.mem_cons.mp h).elim (fun e => ha w (List.mem_cons.mpr (Or.inl e))) (fun h => (List.mem_append.mp h).elim (fun h => ha w (List.mem_cons.mpr (Or.inr h))) (hb w))
theorem goodIn_sub {big ws : List Cond} (hm : ∀ w ∈ ws, w ∈ big) (h : ws.all goodWord = true) : GoodIn big ws := fun w hw => ⟨hm w hw, good_of_word (List.all_eq_true.mp h w hw)⟩

def RX0 : String := "UphillCarts$Ballast"
def TX0 : u_T := fun k => match k with
  | 0 => ("UphillCarts$Ballast", "fewest", "[I", true)
  | 1 => ("UphillCarts$Ballast", "least", "[I", true)
  | 2 => ("UphillCarts$Ballast", "greatest", "[I", true)
  | _ => ("UphillCarts$Ballast", "behind", "[I", true)
def tyX0 : Nat → FieldType := fun k => match k with
  | 0 => .array .int
  | 1 => .array .int
  | 2 => .array .int
  | _ => .array .int
abbrev wsX00 : List Cond := u_ws RX0 TX0 4
theorem nmX0 : ∀ a, a < 4 → ∀ b, b < 4 → a ≠ b → (TX0 a).2.1 ≠ (TX0 b).2.1 := by decide +kernel
theorem tyX0_ok : ∀ k, k < 4 → parseFieldDescriptor (TX0 k).2.2.1 = some (tyX0 k) := by decide +kernel
abbrev cX0_init : ByteArray := prog_2_method_1_code
def yX0_init : MethodName := ⟨RX0, "<init>", "()V"⟩
abbrev cX0_plan : ByteArray := prog_2_method_2_code
def yX0_plan : MethodName := ⟨RX0, "plan", "(LUphillCarts$Road;LUphillCarts$Forces;LUphillCarts$Cart;I)I"⟩
abbrev cX0_mostBehind : ByteArray := prog_2_method_3_code
def yX0_mostBehind : MethodName := ⟨RX0, "mostBehind", "(LUphillCarts$Cart;II)I"⟩
abbrev cX0_costOf : ByteArray := prog_2_method_4_code
def yX0_costOf : MethodName := ⟨RX0, "costOf", "(III)I"⟩
abbrev cX0_choose : ByteArray := prog_2_method_5_code
def yX0_choose : MethodName := ⟨RX0, "choose", "(IIIII)I"⟩
abbrev cX0_follow : ByteArray := prog_2_method_6_code
def yX0_follow : MethodName := ⟨RX0, "follow", "(LUphillCarts$Road;LUphillCarts$Cart;I)I"⟩
def RX1 : String := "UphillCarts$Bend"
def TX1 : u_T := fun k => match k with
  | 0 => ("UphillCarts$Bend", "name", "I", false)
  | 1 => ("UphillCarts$Bend", "height", "I", false)
  | 2 => ("UphillCarts$Bend", "wide", "Z", false)
  | 3 => ("UphillCarts$Bend", "wind", "I", false)
  | 4 => ("UphillCarts$Bend", "depot", "I", false)
  | _ => ("UphillCarts$Bend", "thief", "I", false)
def tyX1 : Nat → FieldType := fun k => match k with
  | 0 => .int
  | 1 => .int
  | 2 => .boolean
  | 3 => .int
  | 4 => .int
  | _ => .int
abbrev wsX10 : List Cond := u_ws RX1 TX1 6
theorem nmX1 : ∀ a, a < 6 → ∀ b, b < 6 → a ≠ b → (TX1 a).2.1 ≠ (TX1 b).2.1 := by decide +kernel
theorem tyX1_ok : ∀ k, k < 6 → parseFieldDescriptor (TX1 k).2.2.1 = some (tyX1 k) := by decide +kernel
abbrev cX1_init : ByteArray := prog_3_method_1_code
def yX1_init : MethodName := ⟨RX1, "<init>", "()V"⟩
def RX2 : String := "UphillCarts$Cart"
def TX2 : u_T := fun k => match k with
  | 0 => ("UphillCarts$Cart", "depots", "[I", true)
  | 1 => ("UphillCarts$Cart", "goods", "I", false)
  | 2 => ("UphillCarts$Cart", "bags", "I", false)
  | 3 => ("UphillCarts$Cart", "stones", "I", false)
  | 4 => ("UphillCarts$Cart", "bend", "I", false)
  | 5 => ("UphillCarts$Cart", "hour", "I", false)
  | 6 => ("UphillCarts$Cart", "state", "I", false)
  | _ => ("UphillCarts$Cart", "number", "J", false)
def tyX2 : Nat → FieldType := fun k => match k with
  | 0 => .array .int
  | 1 => .int
  | 2 => .int
  | 3 => .int
  | 4 => .int
  | 5 => .int
  | 6 => .int
  | _ => .long
abbrev wsX20 : List Cond := u_ws RX2 TX2 8
theorem nmX2 : ∀ a, a < 8 → ∀ b, b < 8 → a ≠ b → (TX2 a).2.1 ≠ (TX2 b).2.1 := by decide +kernel
theorem tyX2_ok : ∀ k, k < 8 → parseFieldDescriptor (TX2 k).2.2.1 = some (tyX2 k) := by decide +kernel
abbrev cX2_init : ByteArray := prog_4_method_1_code
def yX2_init : MethodName := ⟨RX2, "<init>", "()V"⟩
abbrev cX2_start : ByteArray := prog_4_method_2_code
def yX2_start : MethodName := ⟨RX2, "start", "(LUphillCarts$Road;)V"⟩
abbrev cX2_becomes : ByteArray := prog_4_method_3_code
def yX2_becomes : MethodName := ⟨RX2, "becomes", "(LUphillCarts$Cart;)V"⟩
abbrev cX2_weighs : ByteArray := prog_4_method_4_code
def yX2_weighs : MethodName := ⟨RX2, "weighs", "(LUphillCarts$Road;)I"⟩
abbrev cX2_stonesAtDepots : ByteArray := prog_4_method_5_code
def yX2_stonesAtDepots : MethodName := ⟨RX2, "stonesAtDepots", "()I"⟩
abbrev cX2_hourGoesBy : ByteArray := prog_4_method_6_code
def yX2_hourGoesBy : MethodName := ⟨RX2, "hourGoesBy", "(LUphillCarts$Road;LUphillCarts$Forces;)V"⟩
abbrev cX2_meetThief : ByteArray := prog_4_method_7_code
def yX2_meetThief : MethodName := ⟨RX2, "meetThief", "(I)V"⟩
def RX3 : String := "UphillCarts$Forces"
def TX3 : u_T := fun k => match k with
  | 0 => ("UphillCarts$Forces", "lifts", "[I", true)
  | 1 => ("UphillCarts$Forces", "pulls", "[I", true)
  | 2 => ("UphillCarts$Forces", "names", "[J", true)
  | 3 => ("UphillCarts$Forces", "values", "[J", true)
  | 4 => ("UphillCarts$Forces", "road", "LUphillCarts$Road;", false)
  | 5 => ("UphillCarts$Forces", "warm", "Z", false)
  | 6 => ("UphillCarts$Forces", "calm", "Z", false)
  | _ => ("UphillCarts$Forces", "times", "I", false)
def tyX3 : Nat → FieldType := fun k => match k with
  | 0 => .array .int
  | 1 => .array .int
  | 2 => .array .long
  | 3 => .array .long
  | 4 => .object "UphillCarts$Road"
  | 5 => .boolean
  | 6 => .boolean
  | _ => .int
abbrev wsX30 : List Cond := u_ws RX3 TX3 8
theorem nmX3 : ∀ a, a < 8 → ∀ b, b < 8 → a ≠ b → (TX3 a).2.1 ≠ (TX3 b).2.1 := by decide +kernel
theorem tyX3_ok : ∀ k, k < 8 → parseFieldDescriptor (TX3 k).2.2.1 = some (tyX3 k) := by decide +kernel
abbrev cX3_init : ByteArray := prog_5_method_1_code
def yX3_init : MethodName := ⟨RX3, "<init>", "(LUphillCarts$Road;)V"⟩
abbrev cX3_ofRoad : ByteArray := prog_5_method_2_code
def yX3_ofRoad : MethodName := ⟨RX3, "ofRoad", "(LUphillCarts$Road;ZZI)V"⟩
abbrev cX3_worked : ByteArray := prog_5_method_3_code
def yX3_worked : MethodName := ⟨RX3, "worked", "(LUphillCarts$Law;III)J"⟩
abbrev cX3_lifted : ByteArray := prog_5_method_4_code
def yX3_lifted : MethodName := ⟨RX3, "lifted", "(III)I"⟩
abbrev cX3_pulled : ByteArray := prog_5_method_5_code
def yX3_pulled : MethodName := ⟨RX3, "pulled", "(II)I"⟩
abbrev cX3_bagsLift : ByteArray := prog_5_method_6_code
def yX3_bagsLift : MethodName := ⟨RX3, "bagsLift", "(III)I"⟩
abbrev cX3_wayFrom : ByteArray := prog_5_method_7_code
def yX3_wayFrom : MethodName := ⟨RX3, "wayFrom", "(III)I"⟩
def RX4 : String := "UphillCarts$Goods"
def TX4 : u_T := fun k => match k with
  | 0 => ("UphillCarts$Goods", "name", "I", false)
  | 1 => ("UphillCarts$Goods", "weight", "I", false)
  | 2 => ("UphillCarts$Goods", "below", "I", false)
  | _ => ("UphillCarts$Goods", "above", "I", false)
def tyX4 : Nat → FieldType := fun k => match k with
  | 0 => .int
  | 1 => .int
  | 2 => .int
  | _ => .int
abbrev wsX40 : List Cond := u_ws RX4 TX4 4
theorem nmX4 : ∀ a, a < 4 → ∀ b, b < 4 → a ≠ b → (TX4 a).2.1 ≠ (TX4 b).2.1 := by decide +kernel
theorem tyX4_ok : ∀ k, k < 4 → parseFieldDescriptor (TX4 k).2.2.1 = some (tyX4 k) := by decide +kernel
abbrev cX4_init : ByteArray := prog_6_method_1_code
def yX4_init : MethodName := ⟨RX4, "<init>", "()V"⟩
abbrev cX4_gain : ByteArray := prog_6_method_2_code
def yX4_gain : MethodName := ⟨RX4, "gain", "()I"⟩
def RX5 : String := "UphillCarts$Law"
def TX5 : u_T := fun k => match k with
  | 0 => ("UphillCarts$Law", "knot", "[I", true)
  | _ => ("UphillCarts$Law", "length", "I", false)
def tyX5 : Nat → FieldType := fun k => match k with
  | 0 => .array .int
  | _ => .int
abbrev wsX50 : List Cond := u_ws RX5 TX5 2
theorem nmX5 : ∀ a, a < 2 → ∀ b, b < 2 → a ≠ b → (TX5 a).2.1 ≠ (TX5 b).2.1 := by decide +kernel
theorem tyX5_ok : ∀ k, k < 2 → parseFieldDescriptor (TX5 k).2.2.1 = some (tyX5 k) := by decide +kernel
abbrev cX5_init : ByteArray := prog_7_method_1_code
def yX5_init : MethodName := ⟨RX5, "<init>", "()V"⟩
abbrev cX5_isTold : ByteArray := prog_7_method_2_code
def yX5_isTold : MethodName := ⟨RX5, "isTold", "()Z"⟩
abbrev cX5_add : ByteArray := prog_7_method_3_code
def yX5_add : MethodName := ⟨RX5, "add", "(I)V"⟩
abbrev cX5_work : ByteArray := prog_7_method_4_code
def yX5_work : MethodName := ⟨RX5, "work", "([J[J)J"⟩
abbrev cX5_joined : ByteArray := prog_7_method_5_code
def yX5_joined : MethodName := ⟨RX5, "joined", "(IJJ)J"⟩
def RX6 : String := "UphillCarts$Loads"
def TX6 : u_T := fun k => match k with
  | 0 => ("UphillCarts$Loads", "least", "[I", true)
  | 1 => ("UphillCarts$Loads", "greatest", "[I", true)
  | 2 => ("UphillCarts$Loads", "weights", "[I", true)
  | 3 => ("UphillCarts$Loads", "road", "LUphillCarts$Road;", false)
  | 4 => ("UphillCarts$Loads", "allGoods", "I", false)
  | 5 => ("UphillCarts$Loads", "allBags", "I", false)
  | 6 => ("UphillCarts$Loads", "goods", "I", false)
  | 7 => ("UphillCarts$Loads", "bags", "I", false)
  | _ => ("UphillCarts$Loads", "stones", "I", false)
def tyX6 : Nat → FieldType := fun k => match k with
  | 0 => .array .int
  | 1 => .array .int
  | 2 => .array .int
  | 3 => .object "UphillCarts$Road"
  | 4 => .int
  | 5 => .int
  | 6 => .int
  | 7 => .int
  | _ => .int
abbrev wsX60 : List Cond := u_ws RX6 TX6 9
theorem nmX6 : ∀ a, a < 9 → ∀ b, b < 9 → a ≠ b → (TX6 a).2.1 ≠ (TX6 b).2.1 := by decide +kernel
theorem tyX6_ok : ∀ k, k < 9 → parseFieldDescriptor (TX6 k).2.2.1 = some (tyX6 k) := by decide +kernel
abbrev cX6_init : ByteArray := prog_8_method_1_code
def yX6_init : MethodName := ⟨RX6, "<init>", "(LUphillCarts$Road;)V"⟩
abbrev cX6_leaveAll : ByteArray := prog_8_method_2_code
def yX6_leaveAll : MethodName := ⟨RX6, "leaveAll", "(LUphillCarts$Road;)V"⟩
abbrev cX6_isLeft : ByteArray := prog_8_method_3_code
def yX6_isLeft : MethodName := ⟨RX6, "isLeft", "(I)Z"⟩
abbrev cX6_narrow : ByteArray := prog_8_method_4_code
def yX6_narrow : MethodName := ⟨RX6, "narrow", "(III)V"⟩
abbrev cX6_leaveThoseUp : ByteArray := prog_8_method_5_code
def yX6_leaveThoseUp : MethodName := ⟨RX6, "leaveThoseUp", "(LUphillCarts$Road;LUphillCarts$Forces;I)V"⟩
abbrev cX6_leaveThoseThatFit : ByteArray := prog_8_method_6_code
def yX6_leaveThoseThatFit : MethodName := ⟨RX6, "leaveThoseThatFit", "(LUphillCarts$Road;LUphillCarts$Forces;LUphillCarts$Seen;)V"⟩
abbrev cX6_fewestStones : ByteArray := prog_8_method_7_code
def yX6_fewestStones : MethodName := ⟨RX6, "fewestStones", "(II)I"⟩
abbrev cX6_mostStones : ByteArray := prog_8_method_8_code
def yX6_mostStones : MethodName := ⟨RX6, "mostStones", "(II)I"⟩
abbrev cX6_findBest : ByteArray := prog_8_method_9_code
def yX6_findBest : MethodName := ⟨RX6, "findBest", "()Z"⟩
abbrev cX6_priceForNone : ByteArray := prog_8_method_10_code
def yX6_priceForNone : MethodName := ⟨RX6, "priceForNone", "()I"⟩
abbrev cX6_canBeCarried : ByteArray := prog_8_method_11_code
def yX6_canBeCarried : MethodName := ⟨RX6, "canBeCarried", "(I)Z"⟩
abbrev cX6_howManyStones : ByteArray := prog_8_method_12_code
def yX6_howManyStones : MethodName := ⟨RX6, "howManyStones", "(II)I"⟩
abbrev cX6_howMany : ByteArray := prog_8_method_13_code
def yX6_howMany : MethodName := ⟨RX6, "howMany", "(I)I"⟩
abbrev cX6_findNumbered : ByteArray := prog_8_method_14_code
def yX6_findNumbered : MethodName := ⟨RX6, "findNumbered", "(I)Z"⟩
def RX7 : String := "UphillCarts$Parser"
def TX7 : u_T := fun k => match k with
  | 0 => ("UphillCarts$Parser", "tokens", "LUphillCarts$Tokens;", true)
  | 1 => ("UphillCarts$Parser", "waiting", "[I", true)
  | 2 => ("UphillCarts$Parser", "top", "I", false)
  | 3 => ("UphillCarts$Parser", "open", "I", false)
  | 4 => ("UphillCarts$Parser", "road", "LUphillCarts$Road;", false)
  | 5 => ("UphillCarts$Parser", "told", "I", false)
  | 6 => ("UphillCarts$Parser", "depotsTold", "I", false)
  | 7 => ("UphillCarts$Parser", "thievesTold", "I", false)
  | 8 => ("UphillCarts$Parser", "number", "I", false)
  | 9 => ("UphillCarts$Parser", "fault", "I", false)
  | _ => ("UphillCarts$Parser", "place", "I", false)
def tyX7 : Nat → FieldType := fun k => match k with
  | 0 => .object "UphillCarts$Tokens"
  | 1 => .array .int
  | 2 => .int
  | 3 => .int
  | 4 => .object "UphillCarts$Road"
  | 5 => .int
  | 6 => .int
  | 7 => .int
  | 8 => .int
  | 9 => .int
  | _ => .int
abbrev wsX70 : List Cond := u_ws RX7 TX7 11
theorem nmX7 : ∀ a, a < 11 → ∀ b, b < 11 → a ≠ b → (TX7 a).2.1 ≠ (TX7 b).2.1 := by decide +kernel
theorem tyX7_ok : ∀ k, k < 11 → parseFieldDescriptor (TX7 k).2.2.1 = some (tyX7 k) := by decide +kernel
abbrev cX7_init : ByteArray := prog_9_method_1_code
def yX7_init : MethodName := ⟨RX7, "<init>", "([BLUphillCarts$Road;)V"⟩
abbrev cX7_parse : ByteArray := prog_9_method_2_code
def yX7_parse : MethodName := ⟨RX7, "parse", "(LUphillCarts$Road;I)Z"⟩
abbrev cX7_fails : ByteArray := prog_9_method_3_code
def yX7_fails : MethodName := ⟨RX7, "fails", "(I)Z"⟩
abbrev cX7_readLine : ByteArray := prog_9_method_4_code
def yX7_readLine : MethodName := ⟨RX7, "readLine", "()Z"⟩
abbrev cX7_isBelow : ByteArray := prog_9_method_5_code
def yX7_isBelow : MethodName := ⟨RX7, "isBelow", "(II)Z"⟩
abbrev cX7_isToldOnce : ByteArray := prog_9_method_6_code
def yX7_isToldOnce : MethodName := ⟨RX7, "isToldOnce", "()Z"⟩
abbrev cX7_takesNumber : ByteArray := prog_9_method_7_code
def yX7_takesNumber : MethodName := ⟨RX7, "takesNumber", "(II)Z"⟩
abbrev cX7_isNewName : ByteArray := prog_9_method_8_code
def yX7_isNewName : MethodName := ⟨RX7, "isNewName", "(I)Z"⟩
abbrev cX7_readBend : ByteArray := prog_9_method_9_code
def yX7_readBend : MethodName := ⟨RX7, "readBend", "()Z"⟩
abbrev cX7_readWind : ByteArray := prog_9_method_10_code
def yX7_readWind : MethodName := ⟨RX7, "readWind", "()Z"⟩
abbrev cX7_readGoods : ByteArray := prog_9_method_11_code
def yX7_readGoods : MethodName := ⟨RX7, "readGoods", "()Z"⟩
abbrev cX7_readBag : ByteArray := prog_9_method_12_code
def yX7_readBag : MethodName := ⟨RX7, "readBag", "()Z"⟩
abbrev cX7_bendToldAhead : ByteArray := prog_9_method_13_code
def yX7_bendToldAhead : MethodName := ⟨RX7, "bendToldAhead", "(I)I"⟩
abbrev cX7_readDepot : ByteArray := prog_9_method_14_code
def yX7_readDepot : MethodName := ⟨RX7, "readDepot", "()Z"⟩
abbrev cX7_readThief : ByteArray := prog_9_method_15_code
def yX7_readThief : MethodName := ⟨RX7, "readThief", "()Z"⟩
abbrev cX7_readWarm : ByteArray := prog_9_method_16_code
def yX7_readWarm : MethodName := ⟨RX7, "readWarm", "()Z"⟩
abbrev cX7_readHorse : ByteArray := prog_9_method_17_code
def yX7_readHorse : MethodName := ⟨RX7, "readHorse", "()Z"⟩
abbrev cX7_readRope : ByteArray := prog_9_method_18_code
def yX7_readRope : MethodName := ⟨RX7, "readRope", "()Z"⟩
abbrev cX7_readStone : ByteArray := prog_9_method_19_code
def yX7_readStone : MethodName := ⟨RX7, "readStone", "()Z"⟩
abbrev cX7_readSeed : ByteArray := prog_9_method_20_code
def yX7_readSeed : MethodName := ⟨RX7, "readSeed", "()Z"⟩
abbrev cX7_readLaw : ByteArray := prog_9_method_21_code
def yX7_readLaw : MethodName := ⟨RX7, "readLaw", "()Z"⟩
abbrev cX7_isOneKnotMore : ByteArray := prog_9_method_22_code
def yX7_isOneKnotMore : MethodName := ⟨RX7, "isOneKnotMore", "()Z"⟩
abbrev cX7_takesValue : ByteArray := prog_9_method_23_code
def yX7_takesValue : MethodName := ⟨RX7, "takesValue", "(LUphillCarts$Law;)Z"⟩
abbrev cX7_takesSign : ByteArray := prog_9_method_24_code
def yX7_takesSign : MethodName := ⟨RX7, "takesSign", "(LUphillCarts$Law;)Z"⟩
abbrev cX7_push : ByteArray := prog_9_method_25_code
def yX7_push : MethodName := ⟨RX7, "push", "(I)V"⟩
abbrev cX7_rankOnTop : ByteArray := prog_9_method_26_code
def yX7_rankOnTop : MethodName := ⟨RX7, "rankOnTop", "()I"⟩
abbrev cX7_settle : ByteArray := prog_9_method_27_code
def yX7_settle : MethodName := ⟨RX7, "settle", "(LUphillCarts$Law;I)V"⟩
abbrev cX7_rankOf : ByteArray := prog_9_method_28_code
def yX7_rankOf : MethodName := ⟨RX7, "rankOf", "(I)I"⟩
def RX8 : String := "UphillCarts$Road"
def TX8 : u_T := fun k => match k with
  | 0 => ("UphillCarts$Road", "bendAt", "[LUphillCarts$Bend;", true)
  | 1 => ("UphillCarts$Road", "goodsAt", "[LUphillCarts$Goods;", true)
  | 2 => ("UphillCarts$Road", "sortName", "[I", true)
  | 3 => ("UphillCarts$Road", "sizeOf", "[I", true)
  | 4 => ("UphillCarts$Road", "manyOf", "[I", true)
  | 5 => ("UphillCarts$Road", "air", "[I", true)
  | 6 => ("UphillCarts$Road", "liftLaw", "LUphillCarts$Law;", true)
  | 7 => ("UphillCarts$Road", "pullLaw", "LUphillCarts$Law;", true)
  | 8 => ("UphillCarts$Road", "bends", "I", false)
  | 9 => ("UphillCarts$Road", "goods", "I", false)
  | 10 => ("UphillCarts$Road", "sorts", "I", false)
  | 11 => ("UphillCarts$Road", "strong", "I", false)
  | 12 => ("UphillCarts$Road", "holds", "I", false)
  | 13 => ("UphillCarts$Road", "rope", "I", false)
  | 14 => ("UphillCarts$Road", "stone", "I", false)
  | 15 => ("UphillCarts$Road", "seed", "I", false)
  | 16 => ("UphillCarts$Road", "knots", "I", false)
  | _ => ("UphillCarts$Road", "lines", "I", false)
def tyX8 : Nat → FieldType := fun k => match k with
  | 0 => .array (.object "UphillCarts$Bend")
  | 1 => .array (.object "UphillCarts$Goods")
  | 2 => .array .int
  | 3 => .array .int
  | 4 => .array .int
  | 5 => .array .int
  | 6 => .object "UphillCarts$Law"
  | 7 => .object "UphillCarts$Law"
  | 8 => .int
  | 9 => .int
  | 10 => .int
  | 11 => .int
  | 12 => .int
  | 13 => .int
  | 14 => .int
  | 15 => .int
  | 16 => .int
  | _ => .int
abbrev wsX80 : List Cond := u_ws RX8 TX8 18
theorem nmX8 : ∀ a, a < 18 → ∀ b, b < 18 → a ≠ b → (TX8 a).2.1 ≠ (TX8 b).2.1 := by decide +kernel
theorem tyX8_ok : ∀ k, k < 18 → parseFieldDescriptor (TX8 k).2.2.1 = some (tyX8 k) := by decide +kernel
abbrev cX8_init : ByteArray := prog_10_method_1_code
def yX8_init : MethodName := ⟨RX8, "<init>", "()V"⟩
abbrev cX8_empty : ByteArray := prog_10_method_2_code
def yX8_empty : MethodName := ⟨RX8, "empty", "()V"⟩
abbrev cX8_findBend : ByteArray := prog_10_method_3_code
def yX8_findBend : MethodName := ⟨RX8, "findBend", "(I)I"⟩
abbrev cX8_findGoods : ByteArray := prog_10_method_4_code
def yX8_findGoods : MethodName := ⟨RX8, "findGoods", "(I)I"⟩
abbrev cX8_findSort : ByteArray := prog_10_method_5_code
def yX8_findSort : MethodName := ⟨RX8, "findSort", "(I)I"⟩
abbrev cX8_slopeTo : ByteArray := prog_10_method_6_code
def yX8_slopeTo : MethodName := ⟨RX8, "slopeTo", "(I)I"⟩
abbrev cX8_weightOf : ByteArray := prog_10_method_7_code
def yX8_weightOf : MethodName := ⟨RX8, "weightOf", "(I)I"⟩
abbrev cX8_gainOf : ByteArray := prog_10_method_8_code
def yX8_gainOf : MethodName := ⟨RX8, "gainOf", "(I)I"⟩
abbrev cX8_hasBags : ByteArray := prog_10_method_9_code
def yX8_hasBags : MethodName := ⟨RX8, "hasBags", "(I)Z"⟩
abbrev cX8_windAt : ByteArray := prog_10_method_10_code
def yX8_windAt : MethodName := ⟨RX8, "windAt", "(I)I"⟩
def RX9 : String := "UphillCarts$Seen"
def TX9 : u_T := fun k => match k with
  | 0 => ("UphillCarts$Seen", "bend", "[I", true)
  | 1 => ("UphillCarts$Seen", "hour", "[I", true)
  | 2 => ("UphillCarts$Seen", "low", "[I", true)
  | 3 => ("UphillCarts$Seen", "high", "[I", true)
  | 4 => ("UphillCarts$Seen", "struck", "[Z", true)
  | 5 => ("UphillCarts$Seen", "strikes", "[I", true)
  | 6 => ("UphillCarts$Seen", "many", "I", false)
  | _ => ("UphillCarts$Seen", "by", "I", false)
def tyX9 : Nat → FieldType := fun k => match k with
  | 0 => .array .int
  | 1 => .array .int
  | 2 => .array .int
  | 3 => .array .int
  | 4 => .array .boolean
  | 5 => .array .int
  | 6 => .int
  | _ => .int
abbrev wsX90 : List Cond := u_ws RX9 TX9 8
theorem nmX9 : ∀ a, a < 8 → ∀ b, b < 8 → a ≠ b → (TX9 a).2.1 ≠ (TX9 b).2.1 := by decide +kernel
theorem tyX9_ok : ∀ k, k < 8 → parseFieldDescriptor (TX9 k).2.2.1 = some (tyX9 k) := by decide +kernel
abbrev cX9_init : ByteArray := prog_11_method_1_code
def yX9_init : MethodName := ⟨RX9, "<init>", "()V"⟩
abbrev cX9_forgetAll : ByteArray := prog_11_method_2_code
def yX9_forgetAll : MethodName := ⟨RX9, "forgetAll", "()V"⟩
abbrev cX9_add : ByteArray := prog_11_method_3_code
def yX9_add : MethodName := ⟨RX9, "add", "(IIII)I"⟩
abbrev cX9_addStrike : ByteArray := prog_11_method_4_code
def yX9_addStrike : MethodName := ⟨RX9, "addStrike", "(I)I"⟩
abbrev cX9_isStrike : ByteArray := prog_11_method_5_code
def yX9_isStrike : MethodName := ⟨RX9, "isStrike", "(I)Z"⟩
abbrev cX9_knownBy : ByteArray := prog_11_method_6_code
def yX9_knownBy : MethodName := ⟨RX9, "knownBy", "()I"⟩
abbrev cX9_findStruck : ByteArray := prog_11_method_7_code
def yX9_findStruck : MethodName := ⟨RX9, "findStruck", "()V"⟩
def RX10 : String := "UphillCarts$Tokens"
def TX10 : u_T := fun k => match k with
  | 0 => ("UphillCarts$Tokens", "tape", "[B", true)
  | 1 => ("UphillCarts$Tokens", "language", "[I", true)
  | 2 => ("UphillCarts$Tokens", "length", "I", false)
  | 3 => ("UphillCarts$Tokens", "next", "I", false)
  | 4 => ("UphillCarts$Tokens", "kind", "I", false)
  | 5 => ("UphillCarts$Tokens", "value", "I", false)
  | _ => ("UphillCarts$Tokens", "place", "I", false)
def tyX10 : Nat → FieldType := fun k => match k with
  | 0 => .array .byte
  | 1 => .array .int
  | 2 => .int
  | 3 => .int
  | 4 => .int
  | 5 => .int
  | _ => .int
abbrev wsX100 : List Cond := u_ws RX10 TX10 7
theorem nmX10 : ∀ a, a < 7 → ∀ b, b < 7 → a ≠ b → (TX10 a).2.1 ≠ (TX10 b).2.1 := by decide +kernel
theorem tyX10_ok : ∀ k, k < 7 → parseFieldDescriptor (TX10 k).2.2.1 = some (tyX10 k) := by decide +kernel
abbrev cX10_init : ByteArray := prog_12_method_1_code
def yX10_init : MethodName := ⟨RX10, "<init>", "([B)V"⟩
abbrev cX10_lettersOf : ByteArray := prog_12_method_2_code
def yX10_lettersOf : MethodName := ⟨RX10, "lettersOf", "(II)I"⟩
abbrev cX10_begin : ByteArray := prog_12_method_3_code
def yX10_begin : MethodName := ⟨RX10, "begin", "(I)V"⟩
abbrev cX10_step : ByteArray := prog_12_method_4_code
def yX10_step : MethodName := ⟨RX10, "step", "()V"⟩
abbrev cX10_isLetter : ByteArray := prog_12_method_5_code
def yX10_isLetter : MethodName := ⟨RX10, "isLetter", "(B)Z"⟩
abbrev cX10_isDigit : ByteArray := prog_12_method_6_code
def yX10_isDigit : MethodName := ⟨RX10, "isDigit", "(B)Z"⟩
abbrev cX10_readWord : ByteArray := prog_12_method_7_code
def yX10_readWord : MethodName := ⟨RX10, "readWord", "()V"⟩
abbrev cX10_kindOf : ByteArray := prog_12_method_8_code
def yX10_kindOf : MethodName := ⟨RX10, "kindOf", "(I)I"⟩
abbrev cX10_readNumber : ByteArray := prog_12_method_9_code
def yX10_readNumber : MethodName := ⟨RX10, "readNumber", "()V"⟩
abbrev cX10_signOf : ByteArray := prog_12_method_10_code
def yX10_signOf : MethodName := ⟨RX10, "signOf", "(B)I"⟩
abbrev cX10_readSecondSign : ByteArray := prog_12_method_11_code
def yX10_readSecondSign : MethodName := ⟨RX10, "readSecondSign", "()V"⟩
def RX11 : String := "UphillCarts"
def TX11 : u_T := fun k => match k with
  | 0 => ("UphillCarts", "tape", "[B", true)
  | 1 => ("UphillCarts", "fed", "I", false)
  | 2 => ("UphillCarts", "fault", "I", false)
  | 3 => ("UphillCarts", "place", "I", false)
  | 4 => ("UphillCarts", "parser", "LUphillCarts$Parser;", true)
  | 5 => ("UphillCarts", "road", "LUphillCarts$Road;", false)
  | 6 => ("UphillCarts", "spare", "LUphillCarts$Road;", false)
  | 7 => ("UphillCarts", "forces", "LUphillCarts$Forces;", true)
  | 8 => ("UphillCarts", "otherwise", "LUphillCarts$Forces;", true)
  | 9 => ("UphillCarts", "loads", "LUphillCarts$Loads;", true)
  | 10 => ("UphillCarts", "weights", "LUphillCarts$Ballast;", true)
  | 11 => ("UphillCarts", "seen", "LUphillCarts$Seen;", true)
  | 12 => ("UphillCarts", "cart", "LUphillCarts$Cart;", true)
  | 13 => ("UphillCarts", "image", "LUphillCarts$Cart;", true)
  | 14 => ("UphillCarts", "trial", "LUphillCarts$Cart;", true)
  | 15 => ("UphillCarts", "imaged", "Z", false)
  | 16 => ("UphillCarts", "imageKnownBy", "I", false)
  | 17 => ("UphillCarts", "past", "[I", true)
  | _ => ("UphillCarts", "undoable", "I", false)
def tyX11 : Nat → FieldType := fun k => match k with
  | 0 => .array .byte
  | 1 => .int
  | 2 => .int
  | 3 => .int
  | 4 => .object "UphillCarts$Parser"
  | 5 => .object "UphillCarts$Road"
  | 6 => .object "UphillCarts$Road"
  | 7 => .object "UphillCarts$Forces"
  | 8 => .object "UphillCarts$Forces"
  | 9 => .object "UphillCarts$Loads"
  | 10 => .object "UphillCarts$Ballast"
  | 11 => .object "UphillCarts$Seen"
  | 12 => .object "UphillCarts$Cart"
  | 13 => .object "UphillCarts$Cart"
  | 14 => .object "UphillCarts$Cart"
  | 15 => .boolean
  | 16 => .int
  | 17 => .array .int
  | _ => .int
abbrev wsX110 : List Cond := u_ws RX11 TX11 19
theorem nmX11 : ∀ a, a < 19 → ∀ b, b < 19 → a ≠ b → (TX11 a).2.1 ≠ (TX11 b).2.1 := by decide +kernel
theorem tyX11_ok : ∀ k, k < 19 → parseFieldDescriptor (TX11 k).2.2.1 = some (tyX11 k) := by decide +kernel
abbrev cX11_init : ByteArray := prog_1_method_1_code
def yX11_init : MethodName := ⟨RX11, "<init>", "()V"⟩
abbrev cX11_begin : ByteArray := prog_1_method_2_code
def yX11_begin : MethodName := ⟨RX11, "begin", "()V"⟩
abbrev cX11_feed : ByteArray := prog_1_method_3_code
def yX11_feed : MethodName := ⟨RX11, "feed", "(IIIII)I"⟩
abbrev cX11_addBytes : ByteArray := prog_1_method_4_code
def yX11_addBytes : MethodName := ⟨RX11, "addBytes", "(I)V"⟩
abbrev cX11_text : ByteArray := prog_1_method_5_code
def yX11_text : MethodName := ⟨RX11, "text", "(I)I"⟩
abbrev cX11_fault : ByteArray := prog_1_method_6_code
def yX11_fault : MethodName := ⟨RX11, "fault", "(I)I"⟩
abbrev cX11_named : ByteArray := prog_1_method_7_code
def yX11_named : MethodName := ⟨RX11, "named", "(II)I"⟩
abbrev cX11_look : ByteArray := prog_1_method_8_code
def yX11_look : MethodName := ⟨RX11, "look", "(II)I"⟩
abbrev cX11_goods : ByteArray := prog_1_method_9_code
def yX11_goods : MethodName := ⟨RX11, "goods", "(II)I"⟩
abbrev cX11_bag : ByteArray := prog_1_method_10_code
def yX11_bag : MethodName := ⟨RX11, "bag", "(II)I"⟩
abbrev cX11_lift : ByteArray := prog_1_method_11_code
def yX11_lift : MethodName := ⟨RX11, "lift", "(III)I"⟩
abbrev cX11_pull : ByteArray := prog_1_method_12_code
def yX11_pull : MethodName := ⟨RX11, "pull", "(II)I"⟩
abbrev cX11_net : ByteArray := prog_1_method_13_code
def yX11_net : MethodName := ⟨RX11, "net", "(II)I"⟩
abbrev cX11_law : ByteArray := prog_1_method_14_code
def yX11_law : MethodName := ⟨RX11, "law", "(IIII)J"⟩
abbrev cX11_load : ByteArray := prog_1_method_15_code
def yX11_load : MethodName := ⟨RX11, "load", "(IZ)Z"⟩
abbrev cX11_tie : ByteArray := prog_1_method_16_code
def yX11_tie : MethodName := ⟨RX11, "tie", "(II)Z"⟩
abbrev cX11_stones : ByteArray := prog_1_method_17_code
def yX11_stones : MethodName := ⟨RX11, "stones", "(I)Z"⟩
abbrev cX11_at : ByteArray := prog_1_method_18_code
def yX11_at : MethodName := ⟨RX11, "at", "(I)Z"⟩
abbrev cX11_go : ByteArray := prog_1_method_19_code
def yX11_go : MethodName := ⟨RX11, "go", "(I)I"⟩
abbrev cX11_trade : ByteArray := prog_1_method_20_code
def yX11_trade : MethodName := ⟨RX11, "trade", "(I)I"⟩
abbrev cX11_led : ByteArray := prog_1_method_21_code
def yX11_led : MethodName := ⟨RX11, "led", "(II)I"⟩
abbrev cX11_when : ByteArray := prog_1_method_22_code
def yX11_when : MethodName := ⟨RX11, "when", "()I"⟩
abbrev cX11_hoursUp : ByteArray := prog_1_method_23_code
def yX11_hoursUp : MethodName := ⟨RX11, "hoursUp", "()I"⟩
abbrev cX11_span : ByteArray := prog_1_method_24_code
def yX11_span : MethodName := ⟨RX11, "span", "(I)I"⟩
abbrev cX11_rowFrom : ByteArray := prog_1_method_25_code
def yX11_rowFrom : MethodName := ⟨RX11, "rowFrom", "(II)I"⟩
abbrev cX11_most : ByteArray := prog_1_method_26_code
def yX11_most : MethodName := ⟨RX11, "most", "(II)I"⟩
abbrev cX11_ballast : ByteArray := prog_1_method_27_code
def yX11_ballast : MethodName := ⟨RX11, "ballast", "(I)I"⟩
abbrev cX11_behind : ByteArray := prog_1_method_28_code
def yX11_behind : MethodName := ⟨RX11, "behind", "(II)I"⟩
abbrev cX11_ropes : ByteArray := prog_1_method_29_code
def yX11_ropes : MethodName := ⟨RX11, "ropes", "(I)I"⟩
abbrev cX11_meet : ByteArray := prog_1_method_30_code
def yX11_meet : MethodName := ⟨RX11, "meet", "(III)I"⟩
abbrev cX11_meetingBend : ByteArray := prog_1_method_31_code
def yX11_meetingBend : MethodName := ⟨RX11, "meetingBend", "(II)I"⟩
abbrev cX11_waits : ByteArray := prog_1_method_32_code
def yX11_waits : MethodName := ⟨RX11, "waits", "(II)I"⟩
abbrev cX11_worth : ByteArray := prog_1_method_33_code
def yX11_worth : MethodName := ⟨RX11, "worth", "(II)I"⟩
abbrev cX11_toll : ByteArray := prog_1_method_34_code
def yX11_toll : MethodName := ⟨RX11, "toll", "(I)I"⟩
abbrev cX11_lands : ByteArray := prog_1_method_35_code
def yX11_lands : MethodName := ⟨RX11, "lands", "(I)I"⟩
abbrev cX11_see : ByteArray := prog_1_method_36_code
def yX11_see : MethodName := ⟨RX11, "see", "(IIII)I"⟩
abbrev cX11_strike : ByteArray := prog_1_method_37_code
def yX11_strike : MethodName := ⟨RX11, "strike", "(I)I"⟩
abbrev cX11_known : ByteArray := prog_1_method_38_code
def yX11_known : MethodName := ⟨RX11, "known", "(I)Z"⟩
abbrev cX11_fits : ByteArray := prog_1_method_39_code
def yX11_fits : MethodName := ⟨RX11, "fits", "()I"⟩
abbrev cX11_fit : ByteArray := prog_1_method_40_code
def yX11_fit : MethodName := ⟨RX11, "fit", "(II)I"⟩
abbrev cX11_sure : ByteArray := prog_1_method_41_code
def yX11_sure : MethodName := ⟨RX11, "sure", "(I)I"⟩
abbrev cX11_chance : ByteArray := prog_1_method_42_code
def yX11_chance : MethodName := ⟨RX11, "chance", "(I)I"⟩
abbrev cX11_tried : ByteArray := prog_1_method_43_code
def yX11_tried : MethodName := ⟨RX11, "tried", "(III)I"⟩
abbrev cX11_isTrial : ByteArray := prog_1_method_44_code
def yX11_isTrial : MethodName := ⟨RX11, "isTrial", "(II)Z"⟩
abbrev cX11_undo : ByteArray := prog_1_method_45_code
def yX11_undo : MethodName := ⟨RX11, "undo", "()I"⟩
abbrev cX11_remember : ByteArray := prog_1_method_46_code
def yX11_remember : MethodName := ⟨RX11, "remember", "()V"⟩
abbrev cX11_keep : ByteArray := prog_1_method_47_code
def yX11_keep : MethodName := ⟨RX11, "keep", "()I"⟩
abbrev cX11_back : ByteArray := prog_1_method_48_code
def yX11_back : MethodName := ⟨RX11, "back", "()I"⟩
abbrev cX11_count : ByteArray := prog_1_method_49_code
def yX11_count : MethodName := ⟨RX11, "count", "(I)I"⟩
abbrev cX11_isBend : ByteArray := prog_1_method_50_code
def yX11_isBend : MethodName := ⟨RX11, "isBend", "(I)Z"⟩
abbrev cX11_isGoods : ByteArray := prog_1_method_51_code
def yX11_isGoods : MethodName := ⟨RX11, "isGoods", "(I)Z"⟩
abbrev cX11_isSort : ByteArray := prog_1_method_52_code
def yX11_isSort : MethodName := ⟨RX11, "isSort", "(I)Z"⟩
abbrev cX11_isHour : ByteArray := prog_1_method_53_code
def yX11_isHour : MethodName := ⟨RX11, "isHour", "(I)Z"⟩
abbrev cX11_hasWays : ByteArray := prog_1_method_54_code
def yX11_hasWays : MethodName := ⟨RX11, "hasWays", "()Z"⟩
abbrev cX11_canBeLoaded : ByteArray := prog_1_method_55_code
def yX11_canBeLoaded : MethodName := ⟨RX11, "canBeLoaded", "()Z"⟩
def RX12 : String := "UphillCartsModel"
def TX12 : u_T := fun k => match k with
  | 0 => ("UphillCartsModel", "thrown", "I", false)
  | 1 => ("UphillCartsModel", "tape", "[I", true)
  | 2 => ("UphillCartsModel", "taped", "I", false)
  | 3 => ("UphillCartsModel", "number", "[I", true)
  | 4 => ("UphillCartsModel", "bendName", "[I", true)
  | 5 => ("UphillCartsModel", "height", "[I", true)
  | 6 => ("UphillCartsModel", "isWide", "[Z", true)
  | 7 => ("UphillCartsModel", "wind", "[I", true)
  | 8 => ("UphillCartsModel", "depotAs", "[I", true)
  | 9 => ("UphillCartsModel", "thief", "[I", true)
  | 10 => ("UphillCartsModel", "goodsName", "[I", true)
  | 11 => ("UphillCartsModel", "weight", "[I", true)
  | 12 => ("UphillCartsModel", "below", "[I", true)
  | 13 => ("UphillCartsModel", "above", "[I", true)
  | 14 => ("UphillCartsModel", "bagName", "[I", true)
  | 15 => ("UphillCartsModel", "bagSize", "[I", true)
  | 16 => ("UphillCartsModel", "bagMany", "[I", true)
  | 17 => ("UphillCartsModel", "air", "[I", true)
  | 18 => ("UphillCartsModel", "sumFrom", "[I", true)
  | 19 => ("UphillCartsModel", "sumTo", "[I", true)
  | 20 => ("UphillCartsModel", "knotSort", "[I", true)
  | 21 => ("UphillCartsModel", "knotValue", "[I", true)
  | 22 => ("UphillCartsModel", "told", "I", false)
  | 23 => ("UphillCartsModel", "depotsTold", "I", false)
  | 24 => ("UphillCartsModel", "thievesTold", "I", false)
  | 25 => ("UphillCartsModel", "lines", "I", false)
  | 26 => ("UphillCartsModel", "size", "I", false)
  | 27 => ("UphillCartsModel", "at", "I", false)
  | 28 => ("UphillCartsModel", "place", "I", false)
  | 29 => ("UphillCartsModel", "sort", "I", false)
  | 30 => ("UphillCartsModel", "value", "I", false)
  | 31 => ("UphillCartsModel", "fault", "I", false)
  | 32 => ("UphillCartsModel", "faultPlace", "I", false)
  | 33 => ("UphillCartsModel", "lastFault", "I", false)
  | 34 => ("UphillCartsModel", "lastPlace", "I", false)
  | 35 => ("UphillCartsModel", "open", "I", false)
  | 36 => ("UphillCartsModel", "counted", "I", false)
  | 37 => ("UphillCartsModel", "hour", "[I", true)
  | 38 => ("UphillCartsModel", "bend", "[I", true)
  | 39 => ("UphillCartsModel", "state", "[I", true)
  | 40 => ("UphillCartsModel", "loaded", "[I", true)
  | 41 => ("UphillCartsModel", "tied", "[I", true)
  | 42 => ("UphillCartsModel", "stones", "[I", true)
  | 43 => ("UphillCartsModel", "drawn", "[I", true)
  | 44 => ("UphillCartsModel", "depot", "[I", true)
  | 45 => ("UphillCartsModel", "hasImage", "Z", false)
  | 46 => ("UphillCartsModel", "undoMany", "I", false)
  | 47 => ("UphillCartsModel", "names", "[J", true)
  | 48 => ("UphillCartsModel", "worked", "[J", true)
  | 49 => ("UphillCartsModel", "workedMany", "I", false)
  | 50 => ("UphillCartsModel", "tryWhat", "I", false)
  | 51 => ("UphillCartsModel", "lifts", "[I", true)
  | 52 => ("UphillCartsModel", "pulls", "[I", true)
  | 53 => ("UphillCartsModel", "wayEnd", "I", false)
  | 54 => ("UphillCartsModel", "mostGain", "I", false)
  | 55 => ("UphillCartsModel", "mostGoods", "I", false)
  | 56 => ("UphillCartsModel", "mostBags", "I", false)
  | 57 => ("UphillCartsModel", "mostStones", "I", false)
  | 58 => ("UphillCartsModel", "mostToll", "I", false)
  | 59 => ("UphillCartsModel", "changes", "[I", true)
  | 60 => ("UphillCartsModel", "meetHour", "I", false)
  | 61 => ("UphillCartsModel", "seen", "I", false)
  | 62 => ("UphillCartsModel", "knownBy", "I", false)
  | 63 => ("UphillCartsModel", "seenBend", "[I", true)
  | 64 => ("UphillCartsModel", "seenHour", "[I", true)
  | 65 => ("UphillCartsModel", "seenLow", "[I", true)
  | 66 => ("UphillCartsModel", "seenHigh", "[I", true)
  | 67 => ("UphillCartsModel", "strikes", "[I", true)
  | 68 => ("UphillCartsModel", "isStruck", "[Z", true)
  | 69 => ("UphillCartsModel", "fitMany", "I", false)
  | 70 => ("UphillCartsModel", "fitWanted", "I", false)
  | 71 => ("UphillCartsModel", "fitGoods", "I", false)
  | 72 => ("UphillCartsModel", "fitBags", "I", false)
  | 73 => ("UphillCartsModel", "fitStones", "I", false)
  | 74 => ("UphillCartsModel", "fitAll", "I", false)
  | _ => ("UphillCartsModel", "fitSome", "I", false)
def tyX12 : Nat → FieldType := fun k => match k with
  | 0 => .int
  | 1 => .array .int
  | 2 => .int
  | 3 => .array .int
  | 4 => .array .int
  | 5 => .array .int
  | 6 => .array .boolean
  | 7 => .array .int
  | 8 => .array .int
  | 9 => .array .int
  | 10 => .array .int
  | 11 => .array .int
  | 12 => .array .int
  | 13 => .array .int
  | 14 => .array .int
  | 15 => .array .int
  | 16 => .array .int
  | 17 => .array .int
  | 18 => .array .int
  | 19 => .array .int
  | 20 => .array .int
  | 21 => .array .int
  | 22 => .int
  | 23 => .int
  | 24 => .int
  | 25 => .int
  | 26 => .int
  | 27 => .int
  | 28 => .int
  | 29 => .int
  | 30 => .int
  | 31 => .int
  | 32 => .int
  | 33 => .int
  | 34 => .int
  | 35 => .int
  | 36 => .int
  | 37 => .array .int
  | 38 => .array .int
  | 39 => .array .int
  | 40 => .array .int
  | 41 => .array .int
  | 42 => .array .int
  | 43 => .array .int
  | 44 => .array .int
  | 45 => .boolean
  | 46 => .int
  | 47 => .array .long
  | 48 => .array .long
  | 49 => .int
  | 50 => .int
  | 51 => .array .int
  | 52 => .array .int
  | 53 => .int
  | 54 => .int
  | 55 => .int
  | 56 => .int
  | 57 => .int
  | 58 => .int
  | 59 => .array .int
  | 60 => .int
  | 61 => .int
  | 62 => .int
  | 63 => .array .int
  | 64 => .array .int
  | 65 => .array .int
  | 66 => .array .int
  | 67 => .array .int
  | 68 => .array .boolean
  | 69 => .int
  | 70 => .int
  | 71 => .int
  | 72 => .int
  | 73 => .int
  | 74 => .int
  | _ => .int
abbrev wsX120 : List Cond := u_ws RX12 TX12 76
theorem nmX12 : ∀ a, a < 76 → ∀ b, b < 76 → a ≠ b → (TX12 a).2.1 ≠ (TX12 b).2.1 := by decide +kernel
theorem tyX12_ok : ∀ k, k < 76 → parseFieldDescriptor (TX12 k).2.2.1 = some (tyX12 k) := by decide +kernel
abbrev cX12_init : ByteArray := prog_14_method_1_code
def yX12_init : MethodName := ⟨RX12, "<init>", "()V"⟩
abbrev cX12_feed : ByteArray := prog_14_method_3_code
def yX12_feed : MethodName := ⟨RX12, "feed", "(IIIII)I"⟩
abbrev cX12_here : ByteArray := prog_14_method_4_code
def yX12_here : MethodName := ⟨RX12, "here", "()I"⟩
abbrev cX12_isSmall : ByteArray := prog_14_method_5_code
def yX12_isSmall : MethodName := ⟨RX12, "isSmall", "(I)Z"⟩
abbrev cX12_isDigit : ByteArray := prog_14_method_6_code
def yX12_isDigit : MethodName := ⟨RX12, "isDigit", "(I)Z"⟩
abbrev cX12_token : ByteArray := prog_14_method_7_code
def yX12_token : MethodName := ⟨RX12, "token", "()V"⟩
abbrev cX12_sign : ByteArray := prog_14_method_8_code
def yX12_sign : MethodName := ⟨RX12, "sign", "(I)V"⟩
abbrev cX12_word : ByteArray := prog_14_method_9_code
def yX12_word : MethodName := ⟨RX12, "word", "()I"⟩
abbrev cX12_name : ByteArray := prog_14_method_10_code
def yX12_name : MethodName := ⟨RX12, "name", "()V"⟩
abbrev cX12_wrong : ByteArray := prog_14_method_11_code
def yX12_wrong : MethodName := ⟨RX12, "wrong", "(I)V"⟩
abbrev cX12_isWord : ByteArray := prog_14_method_12_code
def yX12_isWord : MethodName := ⟨RX12, "isWord", "(I)Z"⟩
abbrev cX12_isSign : ByteArray := prog_14_method_13_code
def yX12_isSign : MethodName := ⟨RX12, "isSign", "(I)Z"⟩
abbrev cX12_goOn : ByteArray := prog_14_method_14_code
def yX12_goOn : MethodName := ⟨RX12, "goOn", "()V"⟩
abbrev cX12_numeral : ByteArray := prog_14_method_15_code
def yX12_numeral : MethodName := ⟨RX12, "numeral", "(II)I"⟩
abbrev cX12_found : ByteArray := prog_14_method_16_code
def yX12_found : MethodName := ⟨RX12, "found", "([IIII)I"⟩
abbrev cX12_fresh : ByteArray := prog_14_method_17_code
def yX12_fresh : MethodName := ⟨RX12, "fresh", "([III)I"⟩
abbrev cX12_fresher : ByteArray := prog_14_method_18_code
def yX12_fresher : MethodName := ⟨RX12, "fresher", "(I)I"⟩
abbrev cX12_reads : ByteArray := prog_14_method_19_code
def yX12_reads : MethodName := ⟨RX12, "reads", "(II)V"⟩
abbrev cX12_isFull : ByteArray := prog_14_method_20_code
def yX12_isFull : MethodName := ⟨RX12, "isFull", "(I)Z"⟩
abbrev cX12_line : ByteArray := prog_14_method_21_code
def yX12_line : MethodName := ⟨RX12, "line", "()V"⟩
abbrev cX12_bendLine : ByteArray := prog_14_method_22_code
def yX12_bendLine : MethodName := ⟨RX12, "bendLine", "(I)V"⟩
abbrev cX12_bendAtHand : ByteArray := prog_14_method_23_code
def yX12_bendAtHand : MethodName := ⟨RX12, "bendAtHand", "(I)I"⟩
abbrev cX12_warmLine : ByteArray := prog_14_method_24_code
def yX12_warmLine : MethodName := ⟨RX12, "warmLine", "()V"⟩
abbrev cX12_lawLine : ByteArray := prog_14_method_25_code
def yX12_lawLine : MethodName := ⟨RX12, "lawLine", "()V"⟩
abbrev cX12_puts : ByteArray := prog_14_method_26_code
def yX12_puts : MethodName := ⟨RX12, "puts", "(II)V"⟩
abbrev cX12_knot : ByteArray := prog_14_method_27_code
def yX12_knot : MethodName := ⟨RX12, "knot", "()V"⟩
abbrev cX12_expression : ByteArray := prog_14_method_28_code
def yX12_expression : MethodName := ⟨RX12, "expression", "()V"⟩
abbrev cX12_conjunction : ByteArray := prog_14_method_29_code
def yX12_conjunction : MethodName := ⟨RX12, "conjunction", "()V"⟩
abbrev cX12_negation : ByteArray := prog_14_method_30_code
def yX12_negation : MethodName := ⟨RX12, "negation", "()V"⟩
abbrev cX12_sum : ByteArray := prog_14_method_31_code
def yX12_sum : MethodName := ⟨RX12, "sum", "()V"⟩
abbrev cX12_product : ByteArray := prog_14_method_32_code
def yX12_product : MethodName := ⟨RX12, "product", "()V"⟩
abbrev cX12_primary : ByteArray := prog_14_method_33_code
def yX12_primary : MethodName := ⟨RX12, "primary", "()V"⟩
abbrev cX12_half : ByteArray := prog_14_method_34_code
def yX12_half : MethodName := ⟨RX12, "half", "([I)V"⟩
abbrev cX12_text : ByteArray := prog_14_method_35_code
def yX12_text : MethodName := ⟨RX12, "text", "(I)I"⟩
abbrev cX12_fault : ByteArray := prog_14_method_36_code
def yX12_fault : MethodName := ⟨RX12, "fault", "(I)I"⟩
abbrev cX12_named : ByteArray := prog_14_method_37_code
def yX12_named : MethodName := ⟨RX12, "named", "(II)I"⟩
abbrev cX12_begins : ByteArray := prog_14_method_38_code
def yX12_begins : MethodName := ⟨RX12, "begins", "()V"⟩
abbrev cX12_copies : ByteArray := prog_14_method_39_code
def yX12_copies : MethodName := ⟨RX12, "copies", "(II)V"⟩
abbrev cX12_isBend : ByteArray := prog_14_method_40_code
def yX12_isBend : MethodName := ⟨RX12, "isBend", "(I)Z"⟩
abbrev cX12_isGoods : ByteArray := prog_14_method_41_code
def yX12_isGoods : MethodName := ⟨RX12, "isGoods", "(I)Z"⟩
abbrev cX12_isSort : ByteArray := prog_14_method_42_code
def yX12_isSort : MethodName := ⟨RX12, "isSort", "(I)Z"⟩
abbrev cX12_isHour : ByteArray := prog_14_method_43_code
def yX12_isHour : MethodName := ⟨RX12, "isHour", "(I)Z"⟩
abbrev cX12_slopeTo : ByteArray := prog_14_method_44_code
def yX12_slopeTo : MethodName := ⟨RX12, "slopeTo", "(I)I"⟩
abbrev cX12_look : ByteArray := prog_14_method_45_code
def yX12_look : MethodName := ⟨RX12, "look", "(II)I"⟩
abbrev cX12_goods : ByteArray := prog_14_method_46_code
def yX12_goods : MethodName := ⟨RX12, "goods", "(II)I"⟩
abbrev cX12_bag : ByteArray := prog_14_method_47_code
def yX12_bag : MethodName := ⟨RX12, "bag", "(II)I"⟩
abbrev cX12_is : ByteArray := prog_14_method_48_code
def yX12_is : MethodName := ⟨RX12, "is", "(Z)J"⟩
abbrev cX12_works : ByteArray := prog_14_method_49_code
def yX12_works : MethodName := ⟨RX12, "works", "(I)Z"⟩
abbrev cX12_goes : ByteArray := prog_14_method_50_code
def yX12_goes : MethodName := ⟨RX12, "goes", "(I)Z"⟩
abbrev cX12_hasLaw : ByteArray := prog_14_method_51_code
def yX12_hasLaw : MethodName := ⟨RX12, "hasLaw", "(I)Z"⟩
abbrev cX12_within : ByteArray := prog_14_method_52_code
def yX12_within : MethodName := ⟨RX12, "within", "(III)I"⟩
abbrev cX12_strong : ByteArray := prog_14_method_53_code
def yX12_strong : MethodName := ⟨RX12, "strong", "()I"⟩
abbrev cX12_calls : ByteArray := prog_14_method_54_code
def yX12_calls : MethodName := ⟨RX12, "calls", "(III)V"⟩
abbrev cX12_liftOf : ByteArray := prog_14_method_55_code
def yX12_liftOf : MethodName := ⟨RX12, "liftOf", "(III)I"⟩
abbrev cX12_pullOf : ByteArray := prog_14_method_56_code
def yX12_pullOf : MethodName := ⟨RX12, "pullOf", "(II)I"⟩
abbrev cX12_layLaws : ByteArray := prog_14_method_57_code
def yX12_layLaws : MethodName := ⟨RX12, "layLaws", "()V"⟩
abbrev cX12_netOf : ByteArray := prog_14_method_58_code
def yX12_netOf : MethodName := ⟨RX12, "netOf", "(IIIII)I"⟩
abbrev cX12_lift : ByteArray := prog_14_method_59_code
def yX12_lift : MethodName := ⟨RX12, "lift", "(III)I"⟩
abbrev cX12_pull : ByteArray := prog_14_method_60_code
def yX12_pull : MethodName := ⟨RX12, "pull", "(II)I"⟩
abbrev cX12_net : ByteArray := prog_14_method_61_code
def yX12_net : MethodName := ⟨RX12, "net", "(II)I"⟩
abbrev cX12_law : ByteArray := prog_14_method_62_code
def yX12_law : MethodName := ⟨RX12, "law", "(IIII)J"⟩
abbrev cX12_keepNow : ByteArray := prog_14_method_63_code
def yX12_keepNow : MethodName := ⟨RX12, "keepNow", "()V"⟩
abbrev cX12_isBelow : ByteArray := prog_14_method_64_code
def yX12_isBelow : MethodName := ⟨RX12, "isBelow", "()Z"⟩
abbrev cX12_load : ByteArray := prog_14_method_65_code
def yX12_load : MethodName := ⟨RX12, "load", "(IZ)Z"⟩
abbrev cX12_tie : ByteArray := prog_14_method_66_code
def yX12_tie : MethodName := ⟨RX12, "tie", "(II)Z"⟩
abbrev cX12_stones : ByteArray := prog_14_method_67_code
def yX12_stones : MethodName := ⟨RX12, "stones", "(I)Z"⟩
abbrev cX12_at : ByteArray := prog_14_method_68_code
def yX12_at : MethodName := ⟨RX12, "at", "(I)Z"⟩
abbrev cX12_draw : ByteArray := prog_14_method_69_code
def yX12_draw : MethodName := ⟨RX12, "draw", "(I)I"⟩
abbrev cX12_netAt : ByteArray := prog_14_method_70_code
def yX12_netAt : MethodName := ⟨RX12, "netAt", "(III)I"⟩
abbrev cX12_passes : ByteArray := prog_14_method_71_code
def yX12_passes : MethodName := ⟨RX12, "passes", "(I)V"⟩
abbrev cX12_cuts : ByteArray := prog_14_method_72_code
def yX12_cuts : MethodName := ⟨RX12, "cuts", "(I)V"⟩
abbrev cX12_go : ByteArray := prog_14_method_73_code
def yX12_go : MethodName := ⟨RX12, "go", "(I)I"⟩
abbrev cX12_trade : ByteArray := prog_14_method_74_code
def yX12_trade : MethodName := ⟨RX12, "trade", "(I)I"⟩
abbrev cX12_way : ByteArray := prog_14_method_75_code
def yX12_way : MethodName := ⟨RX12, "way", "(IIIII)I"⟩
abbrev cX12_wayNow : ByteArray := prog_14_method_76_code
def yX12_wayNow : MethodName := ⟨RX12, "wayNow", "(I)I"⟩
abbrev cX12_isFrom : ByteArray := prog_14_method_77_code
def yX12_isFrom : MethodName := ⟨RX12, "isFrom", "(I)Z"⟩
abbrev cX12_led : ByteArray := prog_14_method_78_code
def yX12_led : MethodName := ⟨RX12, "led", "(II)I"⟩
abbrev cX12_whenUp : ByteArray := prog_14_method_79_code
def yX12_whenUp : MethodName := ⟨RX12, "whenUp", "()I"⟩
abbrev cX12_when : ByteArray := prog_14_method_80_code
def yX12_when : MethodName := ⟨RX12, "when", "()I"⟩
abbrev cX12_span : ByteArray := prog_14_method_81_code
def yX12_span : MethodName := ⟨RX12, "span", "(I)I"⟩
abbrev cX12_areBags : ByteArray := prog_14_method_82_code
def yX12_areBags : MethodName := ⟨RX12, "areBags", "(I)Z"⟩
abbrev cX12_gainOf : ByteArray := prog_14_method_83_code
def yX12_gainOf : MethodName := ⟨RX12, "gainOf", "(I)I"⟩
abbrev cX12_poundsOf : ByteArray := prog_14_method_84_code
def yX12_poundsOf : MethodName := ⟨RX12, "poundsOf", "(I)I"⟩
abbrev cX12_layMost : ByteArray := prog_14_method_85_code
def yX12_layMost : MethodName := ⟨RX12, "layMost", "(I)V"⟩
abbrev cX12_most : ByteArray := prog_14_method_86_code
def yX12_most : MethodName := ⟨RX12, "most", "(II)I"⟩
abbrev cX12_toll : ByteArray := prog_14_method_87_code
def yX12_toll : MethodName := ⟨RX12, "toll", "(I)I"⟩
abbrev cX12_isHeld : ByteArray := prog_14_method_88_code
def yX12_isHeld : MethodName := ⟨RX12, "isHeld", "(III)Z"⟩
abbrev cX12_comesOn : ByteArray := prog_14_method_89_code
def yX12_comesOn : MethodName := ⟨RX12, "comesOn", "(III)Z"⟩
abbrev cX12_changesBy : ByteArray := prog_14_method_90_code
def yX12_changesBy : MethodName := ⟨RX12, "changesBy", "(IIII)I"⟩
abbrev cX12_layBallast : ByteArray := prog_14_method_91_code
def yX12_layBallast : MethodName := ⟨RX12, "layBallast", "(I)V"⟩
abbrev cX12_ballast : ByteArray := prog_14_method_92_code
def yX12_ballast : MethodName := ⟨RX12, "ballast", "(I)I"⟩
abbrev cX12_behind : ByteArray := prog_14_method_93_code
def yX12_behind : MethodName := ⟨RX12, "behind", "(II)I"⟩
abbrev cX12_ropes : ByteArray := prog_14_method_94_code
def yX12_ropes : MethodName := ⟨RX12, "ropes", "(I)I"⟩
abbrev cX12_meetOf : ByteArray := prog_14_method_95_code
def yX12_meetOf : MethodName := ⟨RX12, "meetOf", "(II)I"⟩
abbrev cX12_isMeet : ByteArray := prog_14_method_96_code
def yX12_isMeet : MethodName := ⟨RX12, "isMeet", "(II)Z"⟩
abbrev cX12_meet : ByteArray := prog_14_method_97_code
def yX12_meet : MethodName := ⟨RX12, "meet", "(III)I"⟩
abbrev cX12_waits : ByteArray := prog_14_method_98_code
def yX12_waits : MethodName := ⟨RX12, "waits", "(II)I"⟩
abbrev cX12_worth : ByteArray := prog_14_method_99_code
def yX12_worth : MethodName := ⟨RX12, "worth", "(II)I"⟩
abbrev cX12_lands : ByteArray := prog_14_method_100_code
def yX12_lands : MethodName := ⟨RX12, "lands", "(I)I"⟩
abbrev cX12_see : ByteArray := prog_14_method_101_code
def yX12_see : MethodName := ⟨RX12, "see", "(IIII)I"⟩
abbrev cX12_strike : ByteArray := prog_14_method_102_code
def yX12_strike : MethodName := ⟨RX12, "strike", "(I)I"⟩
abbrev cX12_known : ByteArray := prog_14_method_103_code
def yX12_known : MethodName := ⟨RX12, "known", "(I)Z"⟩
abbrev cX12_knownMany : ByteArray := prog_14_method_104_code
def yX12_knownMany : MethodName := ⟨RX12, "knownMany", "()I"⟩
abbrev cX12_fitsBy : ByteArray := prog_14_method_105_code
def yX12_fitsBy : MethodName := ⟨RX12, "fitsBy", "(III)Z"⟩
abbrev cX12_layFits : ByteArray := prog_14_method_106_code
def yX12_layFits : MethodName := ⟨RX12, "layFits", "(I)V"⟩
abbrev cX12_oneFits : ByteArray := prog_14_method_107_code
def yX12_oneFits : MethodName := ⟨RX12, "oneFits", "(III)V"⟩
abbrev cX12_fits : ByteArray := prog_14_method_108_code
def yX12_fits : MethodName := ⟨RX12, "fits", "()I"⟩
abbrev cX12_fit : ByteArray := prog_14_method_109_code
def yX12_fit : MethodName := ⟨RX12, "fit", "(II)I"⟩
abbrev cX12_sure : ByteArray := prog_14_method_110_code
def yX12_sure : MethodName := ⟨RX12, "sure", "(I)I"⟩
abbrev cX12_chance : ByteArray := prog_14_method_111_code
def yX12_chance : MethodName := ⟨RX12, "chance", "(I)I"⟩
abbrev cX12_tried : ByteArray := prog_14_method_112_code
def yX12_tried : MethodName := ⟨RX12, "tried", "(III)I"⟩
abbrev cX12_undo : ByteArray := prog_14_method_113_code
def yX12_undo : MethodName := ⟨RX12, "undo", "()I"⟩
abbrev cX12_keep : ByteArray := prog_14_method_114_code
def yX12_keep : MethodName := ⟨RX12, "keep", "()I"⟩
abbrev cX12_back : ByteArray := prog_14_method_115_code
def yX12_back : MethodName := ⟨RX12, "back", "()I"⟩
abbrev cX12_count : ByteArray := prog_14_method_116_code
def yX12_count : MethodName := ⟨RX12, "count", "(I)I"⟩
def RJ9 : String := "java/lang/Math"
abbrev cJ9_floorDiv_7cf53 : ByteArray := prog_20_method_47_code
def yJ9_floorDiv_7cf53 : MethodName := ⟨RJ9, "floorDiv", "(II)I"⟩
abbrev cJ9_abs_0f7a4 : ByteArray := prog_20_method_59_code
def yJ9_abs_0f7a4 : MethodName := ⟨RJ9, "abs", "(I)I"⟩
abbrev cJ9_abs_067f4 : ByteArray := prog_20_method_61_code
def yJ9_abs_067f4 : MethodName := ⟨RJ9, "abs", "(J)J"⟩
abbrev cJ9_max_7cf53 : ByteArray := prog_20_method_65_code
def yJ9_max_7cf53 : MethodName := ⟨RJ9, "max", "(II)I"⟩
abbrev cJ9_max_f86c9 : ByteArray := prog_20_method_66_code
def yJ9_max_f86c9 : MethodName := ⟨RJ9, "max", "(JJ)J"⟩
abbrev cJ9_min_7cf53 : ByteArray := prog_20_method_69_code
def yJ9_min_7cf53 : MethodName := ⟨RJ9, "min", "(II)I"⟩
abbrev cJ9_min_f86c9 : ByteArray := prog_20_method_70_code
def yJ9_min_f86c9 : MethodName := ⟨RJ9, "min", "(JJ)J"⟩
def RJ0 : String := "java/lang/String"
abbrev cJ0_length_8abf5 : ByteArray := prog_22_method_54_code
def yJ0_length_8abf5 : MethodName := ⟨RJ0, "length", "()I"⟩
abbrev cJ0_charAt_5068e : ByteArray := prog_22_method_56_code
def yJ0_charAt_5068e : MethodName := ⟨RJ0, "charAt", "(I)C"⟩
abbrev cJ0_coder_7d493 : ByteArray := prog_22_method_152_code
def yJ0_coder_7d493 : MethodName := ⟨RJ0, "coder", "()B"⟩
abbrev cJ0_isLatin1_aae02 : ByteArray := prog_22_method_154_code
def yJ0_isLatin1_aae02 : MethodName := ⟨RJ0, "isLatin1", "()Z"⟩
abbrev cJ0_checkIndex_df160 : ByteArray := prog_22_method_155_code
def yJ0_checkIndex_df160 : MethodName := ⟨RJ0, "checkIndex", "(II)V"⟩
def RJ1 : String := "java/lang/StringLatin1"
abbrev cJ1_charAt_3b067 : ByteArray := prog_23_method_2_code
def yJ1_charAt_3b067 : MethodName := ⟨RJ1, "charAt", "([BI)C"⟩
def RJ3 : String := "jdk/internal/util/Preconditions"
abbrev cJ3_checkIndex_8e157 : ByteArray := prog_30_method_11_code
def yJ3_checkIndex_8e157 : MethodName := ⟨RJ3, "checkIndex", "(IILjava/util/function/BiFunction;)I"⟩
def RL : String := "UphillCartsLaw"
abbrev cL_look : ByteArray := method_3_code
def yL_look : MethodName := ⟨RL, "look", "(LUphillCarts;II[J)I"⟩
abbrev cL_law : ByteArray := code
def yL_law : MethodName := ⟨RL, "law", "([I)Z"⟩
abbrev vwCl : List vw_C := [(RX0, TX0, 4), (RX1, TX1, 6), (RX2, TX2, 8), (RX3, TX3, 8), (RX4, TX4, 4), (RX5, TX5, 2), (RX6, TX6, 9), (RX7, TX7, 11), (RX8, TX8, 18), (RX9, TX9, 8), (RX10, TX10, 7), (RX11, TX11, 19), (RX12, TX12, 76)]
