section
-- ===== PART A: goes FIRST, ahead of the names: the tables' words, and 'selects' of the private methods out of them =====
/-- a private method of a class that the tables say can be made, by its rows of tables_1 -/
def lw_okq (q : MethodName × Nat) : Prop := (q.1.cls ≠ "java/lang/invoke/MethodHandle" ∧ q.1.cls ≠ "java/lang/invoke/VarHandle") ∧ Cond.instantiable q.1.cls q.2 ∈ tables_1 ∧ Cond.privateMethod q.1 ∈ tables_1 ∧ Cond.instanceMethod q.1 ∈ tables_1
theorem lw_p0 : lw_okq (⟨"UphillCarts", "begin", "()V"⟩, 19) := ⟨⟨by decide +kernel, by decide +kernel⟩, List.mem_of_getElem? (i := 26) (by decide +kernel), List.mem_of_getElem? (i := 529) (by decide +kernel), List.mem_of_getElem? (i := 530) (by decide +kernel)⟩
theorem lw_p1 : lw_okq (⟨"UphillCarts", "addBytes", "(I)V"⟩, 19) := ⟨⟨by decide +kernel, by decide +kernel⟩, List.mem_of_getElem? (i := 26) (by decide +kernel), List.mem_of_getElem? (i := 607) (by decide +kernel), List.mem_of_getElem? (i := 608) (by decide +kernel)⟩
theorem lw_p2 : lw_okq (⟨"UphillCarts$Tokens", "readWord", "()V"⟩, 7) := ⟨⟨by decide +kernel, by decide +kernel⟩, List.mem_of_getElem? (i := 239) (by decide +kernel), List.mem_of_getElem? (i := 634) (by decide +kernel), List.mem_of_getElem? (i := 635) (by decide +kernel)⟩
theorem lw_p3 : lw_okq (⟨"UphillCarts$Tokens", "kindOf", "(I)I"⟩, 7) := ⟨⟨by decide +kernel, by decide +kernel⟩, List.mem_of_getElem? (i := 239) (by decide +kernel), List.mem_of_getElem? (i := 638) (by decide +kernel), List.mem_of_getElem? (i := 639) (by decide +kernel)⟩
theorem lw_p4 : lw_okq (⟨"UphillCarts$Tokens", "readNumber", "()V"⟩, 7) := ⟨⟨by decide +kernel, by decide +kernel⟩, List.mem_of_getElem? (i := 239) (by decide +kernel), List.mem_of_getElem? (i := 645) (by decide +kernel), List.mem_of_getElem? (i := 646) (by decide +kernel)⟩
theorem lw_p5 : lw_okq (⟨"UphillCarts$Tokens", "readSecondSign", "()V"⟩, 7) := ⟨⟨by decide +kernel, by decide +kernel⟩, List.mem_of_getElem? (i := 239) (by decide +kernel), List.mem_of_getElem? (i := 653) (by decide +kernel), List.mem_of_getElem? (i := 654) (by decide +kernel)⟩
theorem lw_p6 : lw_okq (⟨"UphillCarts$Parser", "readLine", "()Z"⟩, 11) := ⟨⟨by decide +kernel, by decide +kernel⟩, List.mem_of_getElem? (i := 233) (by decide +kernel), List.mem_of_getElem? (i := 657) (by decide +kernel), List.mem_of_getElem? (i := 658) (by decide +kernel)⟩
theorem lw_p7 : lw_okq (⟨"UphillCarts$Parser", "isBelow", "(II)Z"⟩, 11) := ⟨⟨by decide +kernel, by decide +kernel⟩, List.mem_of_getElem? (i := 233) (by decide +kernel), List.mem_of_getElem? (i := 661) (by decide +kernel), List.mem_of_getElem? (i := 662) (by decide +kernel)⟩
theorem lw_p8 : lw_okq (⟨"UphillCarts$Parser", "fails", "(I)Z"⟩, 11) := ⟨⟨by decide +kernel, by decide +kernel⟩, List.mem_of_getElem? (i := 233) (by decide +kernel), List.mem_of_getElem? (i := 665) (by decide +kernel), List.mem_of_getElem? (i := 666) (by decide +kernel)⟩
theorem lw_p9 : lw_okq (⟨"UphillCarts$Parser", "readBend", "()Z"⟩, 11) := ⟨⟨by decide +kernel, by decide +kernel⟩, List.mem_of_getElem? (i := 233) (by decide +kernel), List.mem_of_getElem? (i := 669) (by decide +kernel), List.mem_of_getElem? (i := 670) (by decide +kernel)⟩
theorem lw_p10 : lw_okq (⟨"UphillCarts$Parser", "isNewName", "(I)Z"⟩, 11) := ⟨⟨by decide +kernel, by decide +kernel⟩, List.mem_of_getElem? (i := 233) (by decide +kernel), List.mem_of_getElem? (i := 678) (by decide +kernel), List.mem_of_getElem? (i := 679) (by decide +kernel)⟩
theorem lw_p11 : lw_okq (⟨"UphillCarts$Parser", "takesNumber", "(II)Z"⟩, 11) := ⟨⟨by decide +kernel, by decide +kernel⟩, List.mem_of_getElem? (i := 233) (by decide +kernel), List.mem_of_getElem? (i := 682) (by decide +kernel), List.mem_of_getElem? (i := 683) (by decide +kernel)⟩
theorem lw_p12 : lw_okq (⟨"UphillCarts$Parser", "readWind", "()Z"⟩, 11) := ⟨⟨by decide +kernel, by decide +kernel⟩, List.mem_of_getElem? (i := 233) (by decide +kernel), List.mem_of_getElem? (i := 686) (by decide +kernel), List.mem_of_getElem? (i := 687) (by decide +kernel)⟩
theorem lw_p13 : lw_okq (⟨"UphillCarts$Parser", "readGoods", "()Z"⟩, 11) := ⟨⟨by decide +kernel, by decide +kernel⟩, List.mem_of_getElem? (i := 233) (by decide +kernel), List.mem_of_getElem? (i := 690) (by decide +kernel), List.mem_of_getElem? (i := 691) (by decide +kernel)⟩
theorem lw_p14 : lw_okq (⟨"UphillCarts$Parser", "readBag", "()Z"⟩, 11) := ⟨⟨by decide +kernel, by decide +kernel⟩, List.mem_of_getElem? (i := 233) (by decide +kernel), List.mem_of_getElem? (i := 698) (by decide +kernel), List.mem_of_getElem? (i := 699) (by decide +kernel)⟩
theorem lw_p15 : lw_okq (⟨"UphillCarts$Parser", "readDepot", "()Z"⟩, 11) := ⟨⟨by decide +kernel, by decide +kernel⟩, List.mem_of_getElem? (i := 233) (by decide +kernel), List.mem_of_getElem? (i := 706) (by decide +kernel), List.mem_of_getElem? (i := 707) (by decide +kernel)⟩
def lw_privs_1 : List (MethodName × Nat) := [(⟨"UphillCarts", "begin", "()V"⟩, 19), (⟨"UphillCarts", "addBytes", "(I)V"⟩, 19), (⟨"UphillCarts$Tokens", "readWord", "()V"⟩, 7), (⟨"UphillCarts$Tokens", "kindOf", "(I)I"⟩, 7), (⟨"UphillCarts$Tokens", "readNumber", "()V"⟩, 7), (⟨"UphillCarts$Tokens", "readSecondSign", "()V"⟩, 7), (⟨"UphillCarts$Parser", "readLine", "()Z"⟩, 11), (⟨"UphillCarts$Parser", "isBelow", "(II)Z"⟩, 11), (⟨"UphillCarts$Parser", "fails", "(I)Z"⟩, 11), (⟨"UphillCarts$Parser", "readBend", "()Z"⟩, 11), (⟨"UphillCarts$Parser", "isNewName", "(I)Z"⟩, 11), (⟨"UphillCarts$Parser", "takesNumber", "(II)Z"⟩, 11), (⟨"UphillCarts$Parser", "readWind", "()Z"⟩, 11), (⟨"UphillCarts$Parser", "readGoods", "()Z"⟩, 11), (⟨"UphillCarts$Parser", "readBag", "()Z"⟩, 11), (⟨"UphillCarts$Parser", "readDepot", "()Z"⟩, 11)]
theorem lw_r1 : ∀ q ∈ lw_privs_1, lw_okq q := List.forall_mem_cons.mpr ⟨lw_p0, List.forall_mem_cons.mpr ⟨lw_p1, List.forall_mem_cons.mpr ⟨lw_p2, List.forall_mem_cons.mpr ⟨lw_p3, List.forall_mem_cons.mpr ⟨lw_p4, List.forall_mem_cons.mpr ⟨lw_p5, List.forall_mem_cons.mpr ⟨lw_p6, List.forall_mem_cons.mpr ⟨lw_p7, List.forall_mem_cons.mpr ⟨lw_p8, List.forall_mem_cons.mpr ⟨lw_p9, List.forall_mem_cons.mpr ⟨lw_p10, List.forall_mem_cons.mpr ⟨lw_p11, List.forall_mem_cons.mpr ⟨lw_p12, List.forall_mem_cons.mpr ⟨lw_p13, List.forall_mem_cons.mpr ⟨lw_p14, List.forall_mem_cons.mpr ⟨lw_p15, fun _ h => absurd h List.not_mem_nil⟩⟩⟩⟩⟩⟩⟩⟩⟩⟩⟩⟩⟩⟩⟩⟩
theorem lw_p16 : lw_okq (⟨"UphillCarts$Parser", "bendToldAhead", "(I)I"⟩, 11) := ⟨⟨by decide +kernel, by decide +kernel⟩, List.mem_of_getElem? (i := 233) (by decide +kernel), List.mem_of_getElem? (i := 710) (by decide +kernel), List.mem_of_getElem? (i := 711) (by decide +kernel)⟩
theorem lw_p17 : lw_okq (⟨"UphillCarts$Parser", "readThief", "()Z"⟩, 11) := ⟨⟨by decide +kernel, by decide +kernel⟩, List.mem_of_getElem? (i := 233) (by decide +kernel), List.mem_of_getElem? (i := 714) (by decide +kernel), List.mem_of_getElem? (i := 715) (by decide +kernel)⟩
theorem lw_p18 : lw_okq (⟨"UphillCarts$Parser", "isToldOnce", "()Z"⟩, 11) := ⟨⟨by decide +kernel, by decide +kernel⟩, List.mem_of_getElem? (i := 233) (by decide +kernel), List.mem_of_getElem? (i := 718) (by decide +kernel), List.mem_of_getElem? (i := 719) (by decide +kernel)⟩
theorem lw_p19 : lw_okq (⟨"UphillCarts$Parser", "readWarm", "()Z"⟩, 11) := ⟨⟨by decide +kernel, by decide +kernel⟩, List.mem_of_getElem? (i := 233) (by decide +kernel), List.mem_of_getElem? (i := 722) (by decide +kernel), List.mem_of_getElem? (i := 723) (by decide +kernel)⟩
theorem lw_p20 : lw_okq (⟨"UphillCarts$Parser", "readHorse", "()Z"⟩, 11) := ⟨⟨by decide +kernel, by decide +kernel⟩, List.mem_of_getElem? (i := 233) (by decide +kernel), List.mem_of_getElem? (i := 726) (by decide +kernel), List.mem_of_getElem? (i := 727) (by decide +kernel)⟩
theorem lw_p21 : lw_okq (⟨"UphillCarts$Parser", "readRope", "()Z"⟩, 11) := ⟨⟨by decide +kernel, by decide +kernel⟩, List.mem_of_getElem? (i := 233) (by decide +kernel), List.mem_of_getElem? (i := 730) (by decide +kernel), List.mem_of_getElem? (i := 731) (by decide +kernel)⟩
theorem lw_p22 : lw_okq (⟨"UphillCarts$Parser", "readStone", "()Z"⟩, 11) := ⟨⟨by decide +kernel, by decide +kernel⟩, List.mem_of_getElem? (i := 233) (by decide +kernel), List.mem_of_getElem? (i := 734) (by decide +kernel), List.mem_of_getElem? (i := 735) (by decide +kernel)⟩
theorem lw_p23 : lw_okq (⟨"UphillCarts$Parser", "readSeed", "()Z"⟩, 11) := ⟨⟨by decide +kernel, by decide +kernel⟩, List.mem_of_getElem? (i := 233) (by decide +kernel), List.mem_of_getElem? (i := 738) (by decide +kernel), List.mem_of_getElem? (i := 739) (by decide +kernel)⟩
theorem lw_p24 : lw_okq (⟨"UphillCarts$Parser", "readLaw", "()Z"⟩, 11) := ⟨⟨by decide +kernel, by decide +kernel⟩, List.mem_of_getElem? (i := 233) (by decide +kernel), List.mem_of_getElem? (i := 743) (by decide +kernel), List.mem_of_getElem? (i := 744) (by decide +kernel)⟩
theorem lw_p25 : lw_okq (⟨"UphillCarts$Parser", "takesValue", "(LUphillCarts$Law;)Z"⟩, 11) := ⟨⟨by decide +kernel, by decide +kernel⟩, List.mem_of_getElem? (i := 233) (by decide +kernel), List.mem_of_getElem? (i := 751) (by decide +kernel), List.mem_of_getElem? (i := 752) (by decide +kernel)⟩
theorem lw_p26 : lw_okq (⟨"UphillCarts$Parser", "isOneKnotMore", "()Z"⟩, 11) := ⟨⟨by decide +kernel, by decide +kernel⟩, List.mem_of_getElem? (i := 233) (by decide +kernel), List.mem_of_getElem? (i := 759) (by decide +kernel), List.mem_of_getElem? (i := 760) (by decide +kernel)⟩
theorem lw_p27 : lw_okq (⟨"UphillCarts$Parser", "push", "(I)V"⟩, 11) := ⟨⟨by decide +kernel, by decide +kernel⟩, List.mem_of_getElem? (i := 233) (by decide +kernel), List.mem_of_getElem? (i := 763) (by decide +kernel), List.mem_of_getElem? (i := 764) (by decide +kernel)⟩
theorem lw_p28 : lw_okq (⟨"UphillCarts$Parser", "rankOnTop", "()I"⟩, 11) := ⟨⟨by decide +kernel, by decide +kernel⟩, List.mem_of_getElem? (i := 233) (by decide +kernel), List.mem_of_getElem? (i := 767) (by decide +kernel), List.mem_of_getElem? (i := 768) (by decide +kernel)⟩
theorem lw_p29 : lw_okq (⟨"UphillCarts$Parser", "settle", "(LUphillCarts$Law;I)V"⟩, 11) := ⟨⟨by decide +kernel, by decide +kernel⟩, List.mem_of_getElem? (i := 233) (by decide +kernel), List.mem_of_getElem? (i := 774) (by decide +kernel), List.mem_of_getElem? (i := 775) (by decide +kernel)⟩
theorem lw_p30 : lw_okq (⟨"UphillCarts$Parser", "takesSign", "(LUphillCarts$Law;)Z"⟩, 11) := ⟨⟨by decide +kernel, by decide +kernel⟩, List.mem_of_getElem? (i := 233) (by decide +kernel), List.mem_of_getElem? (i := 778) (by decide +kernel), List.mem_of_getElem? (i := 779) (by decide +kernel)⟩
theorem lw_p31 : lw_okq (⟨"UphillCarts", "isGoods", "(I)Z"⟩, 19) := ⟨⟨by decide +kernel, by decide +kernel⟩, List.mem_of_getElem? (i := 26) (by decide +kernel), List.mem_of_getElem? (i := 797) (by decide +kernel), List.mem_of_getElem? (i := 798) (by decide +kernel)⟩
def lw_privs_2 : List (MethodName × Nat) := [(⟨"UphillCarts$Parser", "bendToldAhead", "(I)I"⟩, 11), (⟨"UphillCarts$Parser", "readThief", "()Z"⟩, 11), (⟨"UphillCarts$Parser", "isToldOnce", "()Z"⟩, 11), (⟨"UphillCarts$Parser", "readWarm", "()Z"⟩, 11), (⟨"UphillCarts$Parser", "readHorse", "()Z"⟩, 11), (⟨"UphillCarts$Parser", "readRope", "()Z"⟩, 11), (⟨"UphillCarts$Parser", "readStone", "()Z"⟩, 11), (⟨"UphillCarts$Parser", "readSeed", "()Z"⟩, 11), (⟨"UphillCarts$Parser", "readLaw", "()Z"⟩, 11), (⟨"UphillCarts$Parser", "takesValue", "(LUphillCarts$Law;)Z"⟩, 11), (⟨"UphillCarts$Parser", "isOneKnotMore", "()Z"⟩, 11), (⟨"UphillCarts$Parser", "push", "(I)V"⟩, 11), (⟨"UphillCarts$Parser", "rankOnTop", "()I"⟩, 11), (⟨"UphillCarts$Parser", "settle", "(LUphillCarts$Law;I)V"⟩, 11), (⟨"UphillCarts$Parser", "takesSign", "(LUphillCarts$Law;)Z"⟩, 11), (⟨"UphillCarts", "isGoods", "(I)Z"⟩, 19)]
theorem lw_r2 : ∀ q ∈ lw_privs_2, lw_okq q := List.forall_mem_cons.mpr ⟨lw_p16, List.forall_mem_cons.mpr ⟨lw_p17, List.forall_mem_cons.mpr ⟨lw_p18, List.forall_mem_cons.mpr ⟨lw_p19, List.forall_mem_cons.mpr ⟨lw_p20, List.forall_mem_cons.mpr ⟨lw_p21, List.forall_mem_cons.mpr ⟨lw_p22, List.forall_mem_cons.mpr ⟨lw_p23, List.forall_mem_cons.mpr ⟨lw_p24, List.forall_mem_cons.mpr ⟨lw_p25, List.forall_mem_cons.mpr ⟨lw_p26, List.forall_mem_cons.mpr ⟨lw_p27, List.forall_mem_cons.mpr ⟨lw_p28, List.forall_mem_cons.mpr ⟨lw_p29, List.forall_mem_cons.mpr ⟨lw_p30, List.forall_mem_cons.mpr ⟨lw_p31, fun _ h => absurd h List.not_mem_nil⟩⟩⟩⟩⟩⟩⟩⟩⟩⟩⟩⟩⟩⟩⟩⟩
theorem lw_p32 : lw_okq (⟨"UphillCarts", "isSort", "(I)Z"⟩, 19) := ⟨⟨by decide +kernel, by decide +kernel⟩, List.mem_of_getElem? (i := 26) (by decide +kernel), List.mem_of_getElem? (i := 805) (by decide +kernel), List.mem_of_getElem? (i := 806) (by decide +kernel)⟩
theorem lw_p33 : lw_okq (⟨"UphillCarts", "isBend", "(I)Z"⟩, 19) := ⟨⟨by decide +kernel, by decide +kernel⟩, List.mem_of_getElem? (i := 26) (by decide +kernel), List.mem_of_getElem? (i := 813) (by decide +kernel), List.mem_of_getElem? (i := 814) (by decide +kernel)⟩
theorem lw_p34 : lw_okq (⟨"UphillCarts", "canBeLoaded", "()Z"⟩, 19) := ⟨⟨by decide +kernel, by decide +kernel⟩, List.mem_of_getElem? (i := 26) (by decide +kernel), List.mem_of_getElem? (i := 895) (by decide +kernel), List.mem_of_getElem? (i := 896) (by decide +kernel)⟩
theorem lw_p35 : lw_okq (⟨"UphillCarts", "remember", "()V"⟩, 19) := ⟨⟨by decide +kernel, by decide +kernel⟩, List.mem_of_getElem? (i := 26) (by decide +kernel), List.mem_of_getElem? (i := 899) (by decide +kernel), List.mem_of_getElem? (i := 900) (by decide +kernel)⟩
theorem lw_p36 : lw_okq (⟨"UphillCarts", "hasWays", "()Z"⟩, 19) := ⟨⟨by decide +kernel, by decide +kernel⟩, List.mem_of_getElem? (i := 26) (by decide +kernel), List.mem_of_getElem? (i := 922) (by decide +kernel), List.mem_of_getElem? (i := 923) (by decide +kernel)⟩
theorem lw_p37 : lw_okq (⟨"UphillCarts$Cart", "meetThief", "(I)V"⟩, 8) := ⟨⟨by decide +kernel, by decide +kernel⟩, List.mem_of_getElem? (i := 486) (by decide +kernel), List.mem_of_getElem? (i := 933) (by decide +kernel), List.mem_of_getElem? (i := 934) (by decide +kernel)⟩
theorem lw_p38 : lw_okq (⟨"UphillCarts", "hoursUp", "()I"⟩, 19) := ⟨⟨by decide +kernel, by decide +kernel⟩, List.mem_of_getElem? (i := 26) (by decide +kernel), List.mem_of_getElem? (i := 961) (by decide +kernel), List.mem_of_getElem? (i := 962) (by decide +kernel)⟩
theorem lw_p39 : lw_okq (⟨"UphillCarts$Loads", "leaveAll", "(LUphillCarts$Road;)V"⟩, 9) := ⟨⟨by decide +kernel, by decide +kernel⟩, List.mem_of_getElem? (i := 390) (by decide +kernel), List.mem_of_getElem? (i := 980) (by decide +kernel), List.mem_of_getElem? (i := 981) (by decide +kernel)⟩
theorem lw_p40 : lw_okq (⟨"UphillCarts$Loads", "isLeft", "(I)Z"⟩, 9) := ⟨⟨by decide +kernel, by decide +kernel⟩, List.mem_of_getElem? (i := 390) (by decide +kernel), List.mem_of_getElem? (i := 992) (by decide +kernel), List.mem_of_getElem? (i := 993) (by decide +kernel)⟩
theorem lw_p41 : lw_okq (⟨"UphillCarts$Loads", "narrow", "(III)V"⟩, 9) := ⟨⟨by decide +kernel, by decide +kernel⟩, List.mem_of_getElem? (i := 390) (by decide +kernel), List.mem_of_getElem? (i := 997) (by decide +kernel), List.mem_of_getElem? (i := 998) (by decide +kernel)⟩
theorem lw_p42 : lw_okq (⟨"UphillCarts$Loads", "howManyStones", "(II)I"⟩, 9) := ⟨⟨by decide +kernel, by decide +kernel⟩, List.mem_of_getElem? (i := 390) (by decide +kernel), List.mem_of_getElem? (i := 1015) (by decide +kernel), List.mem_of_getElem? (i := 1016) (by decide +kernel)⟩
theorem lw_p43 : lw_okq (⟨"UphillCarts$Loads", "mostStones", "(II)I"⟩, 9) := ⟨⟨by decide +kernel, by decide +kernel⟩, List.mem_of_getElem? (i := 390) (by decide +kernel), List.mem_of_getElem? (i := 1019) (by decide +kernel), List.mem_of_getElem? (i := 1020) (by decide +kernel)⟩
theorem lw_p44 : lw_okq (⟨"UphillCarts$Loads", "fewestStones", "(II)I"⟩, 9) := ⟨⟨by decide +kernel, by decide +kernel⟩, List.mem_of_getElem? (i := 390) (by decide +kernel), List.mem_of_getElem? (i := 1026) (by decide +kernel), List.mem_of_getElem? (i := 1027) (by decide +kernel)⟩
theorem lw_p45 : lw_okq (⟨"UphillCarts$Ballast", "choose", "(IIIII)I"⟩, 4) := ⟨⟨by decide +kernel, by decide +kernel⟩, List.mem_of_getElem? (i := 427) (by decide +kernel), List.mem_of_getElem? (i := 1047) (by decide +kernel), List.mem_of_getElem? (i := 1048) (by decide +kernel)⟩
theorem lw_p46 : lw_okq (⟨"UphillCarts$Ballast", "costOf", "(III)I"⟩, 4) := ⟨⟨by decide +kernel, by decide +kernel⟩, List.mem_of_getElem? (i := 427) (by decide +kernel), List.mem_of_getElem? (i := 1052) (by decide +kernel), List.mem_of_getElem? (i := 1053) (by decide +kernel)⟩
theorem lw_p47 : lw_okq (⟨"UphillCarts$Ballast", "follow", "(LUphillCarts$Road;LUphillCarts$Cart;I)I"⟩, 4) := ⟨⟨by decide +kernel, by decide +kernel⟩, List.mem_of_getElem? (i := 427) (by decide +kernel), List.mem_of_getElem? (i := 1056) (by decide +kernel), List.mem_of_getElem? (i := 1057) (by decide +kernel)⟩
def lw_privs_3 : List (MethodName × Nat) := [(⟨"UphillCarts", "isSort", "(I)Z"⟩, 19), (⟨"UphillCarts", "isBend", "(I)Z"⟩, 19), (⟨"UphillCarts", "canBeLoaded", "()Z"⟩, 19), (⟨"UphillCarts", "remember", "()V"⟩, 19), (⟨"UphillCarts", "hasWays", "()Z"⟩, 19), (⟨"UphillCarts$Cart", "meetThief", "(I)V"⟩, 8), (⟨"UphillCarts", "hoursUp", "()I"⟩, 19), (⟨"UphillCarts$Loads", "leaveAll", "(LUphillCarts$Road;)V"⟩, 9), (⟨"UphillCarts$Loads", "isLeft", "(I)Z"⟩, 9), (⟨"UphillCarts$Loads", "narrow", "(III)V"⟩, 9), (⟨"UphillCarts$Loads", "howManyStones", "(II)I"⟩, 9), (⟨"UphillCarts$Loads", "mostStones", "(II)I"⟩, 9), (⟨"UphillCarts$Loads", "fewestStones", "(II)I"⟩, 9), (⟨"UphillCarts$Ballast", "choose", "(IIIII)I"⟩, 4), (⟨"UphillCarts$Ballast", "costOf", "(III)I"⟩, 4), (⟨"UphillCarts$Ballast", "follow", "(LUphillCarts$Road;LUphillCarts$Cart;I)I"⟩, 4)]
theorem lw_r3 : ∀ q ∈ lw_privs_3, lw_okq q := List.forall_mem_cons.mpr ⟨lw_p32, List.forall_mem_cons.mpr ⟨lw_p33, List.forall_mem_cons.mpr ⟨lw_p34, List.forall_mem_cons.mpr ⟨lw_p35, List.forall_mem_cons.mpr ⟨lw_p36, List.forall_mem_cons.mpr ⟨lw_p37, List.forall_mem_cons.mpr ⟨lw_p38, List.forall_mem_cons.mpr ⟨lw_p39, List.forall_mem_cons.mpr ⟨lw_p40, List.forall_mem_cons.mpr ⟨lw_p41, List.forall_mem_cons.mpr ⟨lw_p42, List.forall_mem_cons.mpr ⟨lw_p43, List.forall_mem_cons.mpr ⟨lw_p44, List.forall_mem_cons.mpr ⟨lw_p45, List.forall_mem_cons.mpr ⟨lw_p46, List.forall_mem_cons.mpr ⟨lw_p47, fun _ h => absurd h List.not_mem_nil⟩⟩⟩⟩⟩⟩⟩⟩⟩⟩⟩⟩⟩⟩⟩⟩
theorem lw_p48 : lw_okq (⟨"UphillCarts", "meetingBend", "(II)I"⟩, 19) := ⟨⟨by decide +kernel, by decide +kernel⟩, List.mem_of_getElem? (i := 26) (by decide +kernel), List.mem_of_getElem? (i := 1072) (by decide +kernel), List.mem_of_getElem? (i := 1073) (by decide +kernel)⟩
theorem lw_p49 : lw_okq (⟨"UphillCarts$Loads", "canBeCarried", "(I)Z"⟩, 9) := ⟨⟨by decide +kernel, by decide +kernel⟩, List.mem_of_getElem? (i := 390) (by decide +kernel), List.mem_of_getElem? (i := 1093) (by decide +kernel), List.mem_of_getElem? (i := 1094) (by decide +kernel)⟩
theorem lw_p50 : lw_okq (⟨"UphillCarts", "isTrial", "(II)Z"⟩, 19) := ⟨⟨by decide +kernel, by decide +kernel⟩, List.mem_of_getElem? (i := 26) (by decide +kernel), List.mem_of_getElem? (i := 1176) (by decide +kernel), List.mem_of_getElem? (i := 1177) (by decide +kernel)⟩
theorem lw_p51 : lw_okq (⟨"java/lang/Throwable", "fillInStackTrace", "(I)Ljava/lang/Throwable;"⟩, 6) := ⟨⟨by decide +kernel, by decide +kernel⟩, List.mem_of_getElem? (i := 1247) (by decide +kernel), List.mem_of_getElem? (i := 1245) (by decide +kernel), List.mem_of_getElem? (i := 1246) (by decide +kernel)⟩
theorem lw_p52 : lw_okq (⟨"UphillCartsModel", "begins", "()V"⟩, 76) := ⟨⟨by decide +kernel, by decide +kernel⟩, List.mem_of_getElem? (i := 1293) (by decide +kernel), List.mem_of_getElem? (i := 1299) (by decide +kernel), List.mem_of_getElem? (i := 1300) (by decide +kernel)⟩
theorem lw_p53 : lw_okq (⟨"UphillCartsModel", "reads", "(II)V"⟩, 76) := ⟨⟨by decide +kernel, by decide +kernel⟩, List.mem_of_getElem? (i := 1293) (by decide +kernel), List.mem_of_getElem? (i := 1544) (by decide +kernel), List.mem_of_getElem? (i := 1545) (by decide +kernel)⟩
theorem lw_p54 : lw_okq (⟨"UphillCartsModel", "token", "()V"⟩, 76) := ⟨⟨by decide +kernel, by decide +kernel⟩, List.mem_of_getElem? (i := 1293) (by decide +kernel), List.mem_of_getElem? (i := 1548) (by decide +kernel), List.mem_of_getElem? (i := 1549) (by decide +kernel)⟩
theorem lw_p55 : lw_okq (⟨"UphillCartsModel", "here", "()I"⟩, 76) := ⟨⟨by decide +kernel, by decide +kernel⟩, List.mem_of_getElem? (i := 1293) (by decide +kernel), List.mem_of_getElem? (i := 1552) (by decide +kernel), List.mem_of_getElem? (i := 1553) (by decide +kernel)⟩
theorem lw_p56 : lw_okq (⟨"UphillCartsModel", "word", "()I"⟩, 76) := ⟨⟨by decide +kernel, by decide +kernel⟩, List.mem_of_getElem? (i := 1293) (by decide +kernel), List.mem_of_getElem? (i := 1559) (by decide +kernel), List.mem_of_getElem? (i := 1560) (by decide +kernel)⟩
theorem lw_p57 : lw_okq (⟨"UphillCartsModel", "name", "()V"⟩, 76) := ⟨⟨by decide +kernel, by decide +kernel⟩, List.mem_of_getElem? (i := 1293) (by decide +kernel), List.mem_of_getElem? (i := 1566) (by decide +kernel), List.mem_of_getElem? (i := 1567) (by decide +kernel)⟩
theorem lw_p58 : lw_okq (⟨"UphillCartsModel", "sign", "(I)V"⟩, 76) := ⟨⟨by decide +kernel, by decide +kernel⟩, List.mem_of_getElem? (i := 1293) (by decide +kernel), List.mem_of_getElem? (i := 1574) (by decide +kernel), List.mem_of_getElem? (i := 1575) (by decide +kernel)⟩
theorem lw_p59 : lw_okq (⟨"UphillCartsModel", "line", "()V"⟩, 76) := ⟨⟨by decide +kernel, by decide +kernel⟩, List.mem_of_getElem? (i := 1293) (by decide +kernel), List.mem_of_getElem? (i := 1578) (by decide +kernel), List.mem_of_getElem? (i := 1579) (by decide +kernel)⟩
theorem lw_p60 : lw_okq (⟨"UphillCartsModel", "wrong", "(I)V"⟩, 76) := ⟨⟨by decide +kernel, by decide +kernel⟩, List.mem_of_getElem? (i := 1293) (by decide +kernel), List.mem_of_getElem? (i := 1582) (by decide +kernel), List.mem_of_getElem? (i := 1583) (by decide +kernel)⟩
theorem lw_p61 : lw_okq (⟨"UphillCartsModel", "isFull", "(I)Z"⟩, 76) := ⟨⟨by decide +kernel, by decide +kernel⟩, List.mem_of_getElem? (i := 1293) (by decide +kernel), List.mem_of_getElem? (i := 1586) (by decide +kernel), List.mem_of_getElem? (i := 1587) (by decide +kernel)⟩
theorem lw_p62 : lw_okq (⟨"UphillCartsModel", "fresher", "(I)I"⟩, 76) := ⟨⟨by decide +kernel, by decide +kernel⟩, List.mem_of_getElem? (i := 1293) (by decide +kernel), List.mem_of_getElem? (i := 1590) (by decide +kernel), List.mem_of_getElem? (i := 1591) (by decide +kernel)⟩
theorem lw_p63 : lw_okq (⟨"UphillCartsModel", "bendLine", "(I)V"⟩, 76) := ⟨⟨by decide +kernel, by decide +kernel⟩, List.mem_of_getElem? (i := 1293) (by decide +kernel), List.mem_of_getElem? (i := 1594) (by decide +kernel), List.mem_of_getElem? (i := 1595) (by decide +kernel)⟩
def lw_privs_4 : List (MethodName × Nat) := [(⟨"UphillCarts", "meetingBend", "(II)I"⟩, 19), (⟨"UphillCarts$Loads", "canBeCarried", "(I)Z"⟩, 9), (⟨"UphillCarts", "isTrial", "(II)Z"⟩, 19), (⟨"java/lang/Throwable", "fillInStackTrace", "(I)Ljava/lang/Throwable;"⟩, 6), (⟨"UphillCartsModel", "begins", "()V"⟩, 76), (⟨"UphillCartsModel", "reads", "(II)V"⟩, 76), (⟨"UphillCartsModel", "token", "()V"⟩, 76), (⟨"UphillCartsModel", "here", "()I"⟩, 76), (⟨"UphillCartsModel", "word", "()I"⟩, 76), (⟨"UphillCartsModel", "name", "()V"⟩, 76), (⟨"UphillCartsModel", "sign", "(I)V"⟩, 76), (⟨"UphillCartsModel", "line", "()V"⟩, 76), (⟨"UphillCartsModel", "wrong", "(I)V"⟩, 76), (⟨"UphillCartsModel", "isFull", "(I)Z"⟩, 76), (⟨"UphillCartsModel", "fresher", "(I)I"⟩, 76), (⟨"UphillCartsModel", "bendLine", "(I)V"⟩, 76)]
theorem lw_r4 : ∀ q ∈ lw_privs_4, lw_okq q := List.forall_mem_cons.mpr ⟨lw_p48, List.forall_mem_cons.mpr ⟨lw_p49, List.forall_mem_cons.mpr ⟨lw_p50, List.forall_mem_cons.mpr ⟨lw_p51, List.forall_mem_cons.mpr ⟨lw_p52, List.forall_mem_cons.mpr ⟨lw_p53, List.forall_mem_cons.mpr ⟨lw_p54, List.forall_mem_cons.mpr ⟨lw_p55, List.forall_mem_cons.mpr ⟨lw_p56, List.forall_mem_cons.mpr ⟨lw_p57, List.forall_mem_cons.mpr ⟨lw_p58, List.forall_mem_cons.mpr ⟨lw_p59, List.forall_mem_cons.mpr ⟨lw_p60, List.forall_mem_cons.mpr ⟨lw_p61, List.forall_mem_cons.mpr ⟨lw_p62, List.forall_mem_cons.mpr ⟨lw_p63, fun _ h => absurd h List.not_mem_nil⟩⟩⟩⟩⟩⟩⟩⟩⟩⟩⟩⟩⟩⟩⟩⟩
theorem lw_p64 : lw_okq (⟨"UphillCartsModel", "fresh", "([III)I"⟩, 76) := ⟨⟨by decide +kernel, by decide +kernel⟩, List.mem_of_getElem? (i := 1293) (by decide +kernel), List.mem_of_getElem? (i := 1598) (by decide +kernel), List.mem_of_getElem? (i := 1599) (by decide +kernel)⟩
theorem lw_p65 : lw_okq (⟨"UphillCartsModel", "numeral", "(II)I"⟩, 76) := ⟨⟨by decide +kernel, by decide +kernel⟩, List.mem_of_getElem? (i := 1293) (by decide +kernel), List.mem_of_getElem? (i := 1605) (by decide +kernel), List.mem_of_getElem? (i := 1606) (by decide +kernel)⟩
theorem lw_p66 : lw_okq (⟨"UphillCartsModel", "isWord", "(I)Z"⟩, 76) := ⟨⟨by decide +kernel, by decide +kernel⟩, List.mem_of_getElem? (i := 1293) (by decide +kernel), List.mem_of_getElem? (i := 1609) (by decide +kernel), List.mem_of_getElem? (i := 1610) (by decide +kernel)⟩
theorem lw_p67 : lw_okq (⟨"UphillCartsModel", "isSign", "(I)Z"⟩, 76) := ⟨⟨by decide +kernel, by decide +kernel⟩, List.mem_of_getElem? (i := 1293) (by decide +kernel), List.mem_of_getElem? (i := 1613) (by decide +kernel), List.mem_of_getElem? (i := 1614) (by decide +kernel)⟩
theorem lw_p68 : lw_okq (⟨"UphillCartsModel", "bendAtHand", "(I)I"⟩, 76) := ⟨⟨by decide +kernel, by decide +kernel⟩, List.mem_of_getElem? (i := 1293) (by decide +kernel), List.mem_of_getElem? (i := 1617) (by decide +kernel), List.mem_of_getElem? (i := 1618) (by decide +kernel)⟩
theorem lw_p69 : lw_okq (⟨"UphillCartsModel", "goOn", "()V"⟩, 76) := ⟨⟨by decide +kernel, by decide +kernel⟩, List.mem_of_getElem? (i := 1293) (by decide +kernel), List.mem_of_getElem? (i := 1621) (by decide +kernel), List.mem_of_getElem? (i := 1622) (by decide +kernel)⟩
theorem lw_p70 : lw_okq (⟨"UphillCartsModel", "warmLine", "()V"⟩, 76) := ⟨⟨by decide +kernel, by decide +kernel⟩, List.mem_of_getElem? (i := 1293) (by decide +kernel), List.mem_of_getElem? (i := 1625) (by decide +kernel), List.mem_of_getElem? (i := 1626) (by decide +kernel)⟩
theorem lw_p71 : lw_okq (⟨"UphillCartsModel", "lawLine", "()V"⟩, 76) := ⟨⟨by decide +kernel, by decide +kernel⟩, List.mem_of_getElem? (i := 1293) (by decide +kernel), List.mem_of_getElem? (i := 1629) (by decide +kernel), List.mem_of_getElem? (i := 1630) (by decide +kernel)⟩
theorem lw_p72 : lw_okq (⟨"UphillCartsModel", "expression", "()V"⟩, 76) := ⟨⟨by decide +kernel, by decide +kernel⟩, List.mem_of_getElem? (i := 1293) (by decide +kernel), List.mem_of_getElem? (i := 1633) (by decide +kernel), List.mem_of_getElem? (i := 1634) (by decide +kernel)⟩
theorem lw_p73 : lw_okq (⟨"UphillCartsModel", "conjunction", "()V"⟩, 76) := ⟨⟨by decide +kernel, by decide +kernel⟩, List.mem_of_getElem? (i := 1293) (by decide +kernel), List.mem_of_getElem? (i := 1637) (by decide +kernel), List.mem_of_getElem? (i := 1638) (by decide +kernel)⟩
theorem lw_p74 : lw_okq (⟨"UphillCartsModel", "negation", "()V"⟩, 76) := ⟨⟨by decide +kernel, by decide +kernel⟩, List.mem_of_getElem? (i := 1293) (by decide +kernel), List.mem_of_getElem? (i := 1641) (by decide +kernel), List.mem_of_getElem? (i := 1642) (by decide +kernel)⟩
theorem lw_p75 : lw_okq (⟨"UphillCartsModel", "knot", "()V"⟩, 76) := ⟨⟨by decide +kernel, by decide +kernel⟩, List.mem_of_getElem? (i := 1293) (by decide +kernel), List.mem_of_getElem? (i := 1645) (by decide +kernel), List.mem_of_getElem? (i := 1646) (by decide +kernel)⟩
theorem lw_p76 : lw_okq (⟨"UphillCartsModel", "puts", "(II)V"⟩, 76) := ⟨⟨by decide +kernel, by decide +kernel⟩, List.mem_of_getElem? (i := 1293) (by decide +kernel), List.mem_of_getElem? (i := 1649) (by decide +kernel), List.mem_of_getElem? (i := 1650) (by decide +kernel)⟩
theorem lw_p77 : lw_okq (⟨"UphillCartsModel", "sum", "()V"⟩, 76) := ⟨⟨by decide +kernel, by decide +kernel⟩, List.mem_of_getElem? (i := 1293) (by decide +kernel), List.mem_of_getElem? (i := 1653) (by decide +kernel), List.mem_of_getElem? (i := 1654) (by decide +kernel)⟩
theorem lw_p78 : lw_okq (⟨"UphillCartsModel", "product", "()V"⟩, 76) := ⟨⟨by decide +kernel, by decide +kernel⟩, List.mem_of_getElem? (i := 1293) (by decide +kernel), List.mem_of_getElem? (i := 1657) (by decide +kernel), List.mem_of_getElem? (i := 1658) (by decide +kernel)⟩
theorem lw_p79 : lw_okq (⟨"UphillCartsModel", "primary", "()V"⟩, 76) := ⟨⟨by decide +kernel, by decide +kernel⟩, List.mem_of_getElem? (i := 1293) (by decide +kernel), List.mem_of_getElem? (i := 1661) (by decide +kernel), List.mem_of_getElem? (i := 1662) (by decide +kernel)⟩
def lw_privs_5 : List (MethodName × Nat) := [(⟨"UphillCartsModel", "fresh", "([III)I"⟩, 76), (⟨"UphillCartsModel", "numeral", "(II)I"⟩, 76), (⟨"UphillCartsModel", "isWord", "(I)Z"⟩, 76), (⟨"UphillCartsModel", "isSign", "(I)Z"⟩, 76), (⟨"UphillCartsModel", "bendAtHand", "(I)I"⟩, 76), (⟨"UphillCartsModel", "goOn", "()V"⟩, 76), (⟨"UphillCartsModel", "warmLine", "()V"⟩, 76), (⟨"UphillCartsModel", "lawLine", "()V"⟩, 76), (⟨"UphillCartsModel", "expression", "()V"⟩, 76), (⟨"UphillCartsModel", "conjunction", "()V"⟩, 76), (⟨"UphillCartsModel", "negation", "()V"⟩, 76), (⟨"UphillCartsModel", "knot", "()V"⟩, 76), (⟨"UphillCartsModel", "puts", "(II)V"⟩, 76), (⟨"UphillCartsModel", "sum", "()V"⟩, 76), (⟨"UphillCartsModel", "product", "()V"⟩, 76), (⟨"UphillCartsModel", "primary", "()V"⟩, 76)]
theorem lw_r5 : ∀ q ∈ lw_privs_5, lw_okq q := List.forall_mem_cons.mpr ⟨lw_p64, List.forall_mem_cons.mpr ⟨lw_p65, List.forall_mem_cons.mpr ⟨lw_p66, List.forall_mem_cons.mpr ⟨lw_p67, List.forall_mem_cons.mpr ⟨lw_p68, List.forall_mem_cons.mpr ⟨lw_p69, List.forall_mem_cons.mpr ⟨lw_p70, List.forall_mem_cons.mpr ⟨lw_p71, List.forall_mem_cons.mpr ⟨lw_p72, List.forall_mem_cons.mpr ⟨lw_p73, List.forall_mem_cons.mpr ⟨lw_p74, List.forall_mem_cons.mpr ⟨lw_p75, List.forall_mem_cons.mpr ⟨lw_p76, List.forall_mem_cons.mpr ⟨lw_p77, List.forall_mem_cons.mpr ⟨lw_p78, List.forall_mem_cons.mpr ⟨lw_p79, fun _ h => absurd h List.not_mem_nil⟩⟩⟩⟩⟩⟩⟩⟩⟩⟩⟩⟩⟩⟩⟩⟩
theorem lw_p80 : lw_okq (⟨"UphillCartsModel", "isBend", "(I)Z"⟩, 76) := ⟨⟨by decide +kernel, by decide +kernel⟩, List.mem_of_getElem? (i := 1293) (by decide +kernel), List.mem_of_getElem? (i := 1680) (by decide +kernel), List.mem_of_getElem? (i := 1681) (by decide +kernel)⟩
theorem lw_p81 : lw_okq (⟨"UphillCartsModel", "slopeTo", "(I)I"⟩, 76) := ⟨⟨by decide +kernel, by decide +kernel⟩, List.mem_of_getElem? (i := 1293) (by decide +kernel), List.mem_of_getElem? (i := 1684) (by decide +kernel), List.mem_of_getElem? (i := 1685) (by decide +kernel)⟩
theorem lw_p82 : lw_okq (⟨"UphillCartsModel", "isGoods", "(I)Z"⟩, 76) := ⟨⟨by decide +kernel, by decide +kernel⟩, List.mem_of_getElem? (i := 1293) (by decide +kernel), List.mem_of_getElem? (i := 1693) (by decide +kernel), List.mem_of_getElem? (i := 1694) (by decide +kernel)⟩
theorem lw_p83 : lw_okq (⟨"UphillCartsModel", "isSort", "(I)Z"⟩, 76) := ⟨⟨by decide +kernel, by decide +kernel⟩, List.mem_of_getElem? (i := 1293) (by decide +kernel), List.mem_of_getElem? (i := 1701) (by decide +kernel), List.mem_of_getElem? (i := 1702) (by decide +kernel)⟩
theorem lw_p84 : lw_okq (⟨"UphillCartsModel", "liftOf", "(III)I"⟩, 76) := ⟨⟨by decide +kernel, by decide +kernel⟩, List.mem_of_getElem? (i := 1293) (by decide +kernel), List.mem_of_getElem? (i := 1712) (by decide +kernel), List.mem_of_getElem? (i := 1713) (by decide +kernel)⟩
theorem lw_p85 : lw_okq (⟨"UphillCartsModel", "calls", "(III)V"⟩, 76) := ⟨⟨by decide +kernel, by decide +kernel⟩, List.mem_of_getElem? (i := 1293) (by decide +kernel), List.mem_of_getElem? (i := 1716) (by decide +kernel), List.mem_of_getElem? (i := 1717) (by decide +kernel)⟩
theorem lw_p86 : lw_okq (⟨"UphillCartsModel", "within", "(III)I"⟩, 76) := ⟨⟨by decide +kernel, by decide +kernel⟩, List.mem_of_getElem? (i := 1293) (by decide +kernel), List.mem_of_getElem? (i := 1722) (by decide +kernel), List.mem_of_getElem? (i := 1723) (by decide +kernel)⟩
theorem lw_p87 : lw_okq (⟨"UphillCartsModel", "hasLaw", "(I)Z"⟩, 76) := ⟨⟨by decide +kernel, by decide +kernel⟩, List.mem_of_getElem? (i := 1293) (by decide +kernel), List.mem_of_getElem? (i := 1726) (by decide +kernel), List.mem_of_getElem? (i := 1727) (by decide +kernel)⟩
theorem lw_p88 : lw_okq (⟨"UphillCartsModel", "goes", "(I)Z"⟩, 76) := ⟨⟨by decide +kernel, by decide +kernel⟩, List.mem_of_getElem? (i := 1293) (by decide +kernel), List.mem_of_getElem? (i := 1730) (by decide +kernel), List.mem_of_getElem? (i := 1731) (by decide +kernel)⟩
theorem lw_p89 : lw_okq (⟨"UphillCartsModel", "works", "(I)Z"⟩, 76) := ⟨⟨by decide +kernel, by decide +kernel⟩, List.mem_of_getElem? (i := 1293) (by decide +kernel), List.mem_of_getElem? (i := 1734) (by decide +kernel), List.mem_of_getElem? (i := 1735) (by decide +kernel)⟩
theorem lw_p90 : lw_okq (⟨"UphillCartsModel", "pullOf", "(II)I"⟩, 76) := ⟨⟨by decide +kernel, by decide +kernel⟩, List.mem_of_getElem? (i := 1293) (by decide +kernel), List.mem_of_getElem? (i := 1752) (by decide +kernel), List.mem_of_getElem? (i := 1753) (by decide +kernel)⟩
theorem lw_p91 : lw_okq (⟨"UphillCartsModel", "strong", "()I"⟩, 76) := ⟨⟨by decide +kernel, by decide +kernel⟩, List.mem_of_getElem? (i := 1293) (by decide +kernel), List.mem_of_getElem? (i := 1756) (by decide +kernel), List.mem_of_getElem? (i := 1757) (by decide +kernel)⟩
theorem lw_p92 : lw_okq (⟨"UphillCartsModel", "layLaws", "()V"⟩, 76) := ⟨⟨by decide +kernel, by decide +kernel⟩, List.mem_of_getElem? (i := 1293) (by decide +kernel), List.mem_of_getElem? (i := 1765) (by decide +kernel), List.mem_of_getElem? (i := 1766) (by decide +kernel)⟩
theorem lw_p93 : lw_okq (⟨"UphillCartsModel", "netOf", "(IIIII)I"⟩, 76) := ⟨⟨by decide +kernel, by decide +kernel⟩, List.mem_of_getElem? (i := 1293) (by decide +kernel), List.mem_of_getElem? (i := 1769) (by decide +kernel), List.mem_of_getElem? (i := 1770) (by decide +kernel)⟩
theorem lw_p94 : lw_okq (⟨"UphillCartsModel", "isBelow", "()Z"⟩, 76) := ⟨⟨by decide +kernel, by decide +kernel⟩, List.mem_of_getElem? (i := 1293) (by decide +kernel), List.mem_of_getElem? (i := 1782) (by decide +kernel), List.mem_of_getElem? (i := 1783) (by decide +kernel)⟩
theorem lw_p95 : lw_okq (⟨"UphillCartsModel", "keepNow", "()V"⟩, 76) := ⟨⟨by decide +kernel, by decide +kernel⟩, List.mem_of_getElem? (i := 1293) (by decide +kernel), List.mem_of_getElem? (i := 1786) (by decide +kernel), List.mem_of_getElem? (i := 1787) (by decide +kernel)⟩
def lw_privs_6 : List (MethodName × Nat) := [(⟨"UphillCartsModel", "isBend", "(I)Z"⟩, 76), (⟨"UphillCartsModel", "slopeTo", "(I)I"⟩, 76), (⟨"UphillCartsModel", "isGoods", "(I)Z"⟩, 76), (⟨"UphillCartsModel", "isSort", "(I)Z"⟩, 76), (⟨"UphillCartsModel", "liftOf", "(III)I"⟩, 76), (⟨"UphillCartsModel", "calls", "(III)V"⟩, 76), (⟨"UphillCartsModel", "within", "(III)I"⟩, 76), (⟨"UphillCartsModel", "hasLaw", "(I)Z"⟩, 76), (⟨"UphillCartsModel", "goes", "(I)Z"⟩, 76), (⟨"UphillCartsModel", "works", "(I)Z"⟩, 76), (⟨"UphillCartsModel", "pullOf", "(II)I"⟩, 76), (⟨"UphillCartsModel", "strong", "()I"⟩, 76), (⟨"UphillCartsModel", "layLaws", "()V"⟩, 76), (⟨"UphillCartsModel", "netOf", "(IIIII)I"⟩, 76), (⟨"UphillCartsModel", "isBelow", "()Z"⟩, 76), (⟨"UphillCartsModel", "keepNow", "()V"⟩, 76)]
theorem lw_r6 : ∀ q ∈ lw_privs_6, lw_okq q := List.forall_mem_cons.mpr ⟨lw_p80, List.forall_mem_cons.mpr ⟨lw_p81, List.forall_mem_cons.mpr ⟨lw_p82, List.forall_mem_cons.mpr ⟨lw_p83, List.forall_mem_cons.mpr ⟨lw_p84, List.forall_mem_cons.mpr ⟨lw_p85, List.forall_mem_cons.mpr ⟨lw_p86, List.forall_mem_cons.mpr ⟨lw_p87, List.forall_mem_cons.mpr ⟨lw_p88, List.forall_mem_cons.mpr ⟨lw_p89, List.forall_mem_cons.mpr ⟨lw_p90, List.forall_mem_cons.mpr ⟨lw_p91, List.forall_mem_cons.mpr ⟨lw_p92, List.forall_mem_cons.mpr ⟨lw_p93, List.forall_mem_cons.mpr ⟨lw_p94, List.forall_mem_cons.mpr ⟨lw_p95, fun _ h => absurd h List.not_mem_nil⟩⟩⟩⟩⟩⟩⟩⟩⟩⟩⟩⟩⟩⟩⟩⟩
theorem lw_p96 : lw_okq (⟨"UphillCartsModel", "copies", "(II)V"⟩, 76) := ⟨⟨by decide +kernel, by decide +kernel⟩, List.mem_of_getElem? (i := 1293) (by decide +kernel), List.mem_of_getElem? (i := 1790) (by decide +kernel), List.mem_of_getElem? (i := 1791) (by decide +kernel)⟩
theorem lw_p97 : lw_okq (⟨"UphillCartsModel", "passes", "(I)V"⟩, 76) := ⟨⟨by decide +kernel, by decide +kernel⟩, List.mem_of_getElem? (i := 1293) (by decide +kernel), List.mem_of_getElem? (i := 1810) (by decide +kernel), List.mem_of_getElem? (i := 1811) (by decide +kernel)⟩
theorem lw_p98 : lw_okq (⟨"UphillCartsModel", "netAt", "(III)I"⟩, 76) := ⟨⟨by decide +kernel, by decide +kernel⟩, List.mem_of_getElem? (i := 1293) (by decide +kernel), List.mem_of_getElem? (i := 1814) (by decide +kernel), List.mem_of_getElem? (i := 1815) (by decide +kernel)⟩
theorem lw_p99 : lw_okq (⟨"UphillCartsModel", "draw", "(I)I"⟩, 76) := ⟨⟨by decide +kernel, by decide +kernel⟩, List.mem_of_getElem? (i := 1293) (by decide +kernel), List.mem_of_getElem? (i := 1818) (by decide +kernel), List.mem_of_getElem? (i := 1819) (by decide +kernel)⟩
theorem lw_p100 : lw_okq (⟨"UphillCartsModel", "cuts", "(I)V"⟩, 76) := ⟨⟨by decide +kernel, by decide +kernel⟩, List.mem_of_getElem? (i := 1293) (by decide +kernel), List.mem_of_getElem? (i := 1824) (by decide +kernel), List.mem_of_getElem? (i := 1825) (by decide +kernel)⟩
theorem lw_p101 : lw_okq (⟨"UphillCartsModel", "isFrom", "(I)Z"⟩, 76) := ⟨⟨by decide +kernel, by decide +kernel⟩, List.mem_of_getElem? (i := 1293) (by decide +kernel), List.mem_of_getElem? (i := 1836) (by decide +kernel), List.mem_of_getElem? (i := 1837) (by decide +kernel)⟩
theorem lw_p102 : lw_okq (⟨"UphillCartsModel", "wayNow", "(I)I"⟩, 76) := ⟨⟨by decide +kernel, by decide +kernel⟩, List.mem_of_getElem? (i := 1293) (by decide +kernel), List.mem_of_getElem? (i := 1840) (by decide +kernel), List.mem_of_getElem? (i := 1841) (by decide +kernel)⟩
theorem lw_p103 : lw_okq (⟨"UphillCartsModel", "way", "(IIIII)I"⟩, 76) := ⟨⟨by decide +kernel, by decide +kernel⟩, List.mem_of_getElem? (i := 1293) (by decide +kernel), List.mem_of_getElem? (i := 1844) (by decide +kernel), List.mem_of_getElem? (i := 1845) (by decide +kernel)⟩
theorem lw_p104 : lw_okq (⟨"UphillCartsModel", "whenUp", "()I"⟩, 76) := ⟨⟨by decide +kernel, by decide +kernel⟩, List.mem_of_getElem? (i := 1293) (by decide +kernel), List.mem_of_getElem? (i := 1852) (by decide +kernel), List.mem_of_getElem? (i := 1853) (by decide +kernel)⟩
theorem lw_p105 : lw_okq (⟨"UphillCartsModel", "layMost", "(I)V"⟩, 76) := ⟨⟨by decide +kernel, by decide +kernel⟩, List.mem_of_getElem? (i := 1293) (by decide +kernel), List.mem_of_getElem? (i := 1864) (by decide +kernel), List.mem_of_getElem? (i := 1865) (by decide +kernel)⟩
theorem lw_p106 : lw_okq (⟨"UphillCartsModel", "gainOf", "(I)I"⟩, 76) := ⟨⟨by decide +kernel, by decide +kernel⟩, List.mem_of_getElem? (i := 1293) (by decide +kernel), List.mem_of_getElem? (i := 1868) (by decide +kernel), List.mem_of_getElem? (i := 1869) (by decide +kernel)⟩
theorem lw_p107 : lw_okq (⟨"UphillCartsModel", "poundsOf", "(I)I"⟩, 76) := ⟨⟨by decide +kernel, by decide +kernel⟩, List.mem_of_getElem? (i := 1293) (by decide +kernel), List.mem_of_getElem? (i := 1872) (by decide +kernel), List.mem_of_getElem? (i := 1873) (by decide +kernel)⟩
theorem lw_p108 : lw_okq (⟨"UphillCartsModel", "areBags", "(I)Z"⟩, 76) := ⟨⟨by decide +kernel, by decide +kernel⟩, List.mem_of_getElem? (i := 1293) (by decide +kernel), List.mem_of_getElem? (i := 1876) (by decide +kernel), List.mem_of_getElem? (i := 1877) (by decide +kernel)⟩
theorem lw_p109 : lw_okq (⟨"UphillCartsModel", "layBallast", "(I)V"⟩, 76) := ⟨⟨by decide +kernel, by decide +kernel⟩, List.mem_of_getElem? (i := 1293) (by decide +kernel), List.mem_of_getElem? (i := 1888) (by decide +kernel), List.mem_of_getElem? (i := 1889) (by decide +kernel)⟩
theorem lw_p110 : lw_okq (⟨"UphillCartsModel", "changesBy", "(IIII)I"⟩, 76) := ⟨⟨by decide +kernel, by decide +kernel⟩, List.mem_of_getElem? (i := 1293) (by decide +kernel), List.mem_of_getElem? (i := 1892) (by decide +kernel), List.mem_of_getElem? (i := 1893) (by decide +kernel)⟩
theorem lw_p111 : lw_okq (⟨"UphillCartsModel", "comesOn", "(III)Z"⟩, 76) := ⟨⟨by decide +kernel, by decide +kernel⟩, List.mem_of_getElem? (i := 1293) (by decide +kernel), List.mem_of_getElem? (i := 1896) (by decide +kernel), List.mem_of_getElem? (i := 1897) (by decide +kernel)⟩
def lw_privs_7 : List (MethodName × Nat) := [(⟨"UphillCartsModel", "copies", "(II)V"⟩, 76), (⟨"UphillCartsModel", "passes", "(I)V"⟩, 76), (⟨"UphillCartsModel", "netAt", "(III)I"⟩, 76), (⟨"UphillCartsModel", "draw", "(I)I"⟩, 76), (⟨"UphillCartsModel", "cuts", "(I)V"⟩, 76), (⟨"UphillCartsModel", "isFrom", "(I)Z"⟩, 76), (⟨"UphillCartsModel", "wayNow", "(I)I"⟩, 76), (⟨"UphillCartsModel", "way", "(IIIII)I"⟩, 76), (⟨"UphillCartsModel", "whenUp", "()I"⟩, 76), (⟨"UphillCartsModel", "layMost", "(I)V"⟩, 76), (⟨"UphillCartsModel", "gainOf", "(I)I"⟩, 76), (⟨"UphillCartsModel", "poundsOf", "(I)I"⟩, 76), (⟨"UphillCartsModel", "areBags", "(I)Z"⟩, 76), (⟨"UphillCartsModel", "layBallast", "(I)V"⟩, 76), (⟨"UphillCartsModel", "changesBy", "(IIII)I"⟩, 76), (⟨"UphillCartsModel", "comesOn", "(III)Z"⟩, 76)]
theorem lw_r7 : ∀ q ∈ lw_privs_7, lw_okq q := List.forall_mem_cons.mpr ⟨lw_p96, List.forall_mem_cons.mpr ⟨lw_p97, List.forall_mem_cons.mpr ⟨lw_p98, List.forall_mem_cons.mpr ⟨lw_p99, List.forall_mem_cons.mpr ⟨lw_p100, List.forall_mem_cons.mpr ⟨lw_p101, List.forall_mem_cons.mpr ⟨lw_p102, List.forall_mem_cons.mpr ⟨lw_p103, List.forall_mem_cons.mpr ⟨lw_p104, List.forall_mem_cons.mpr ⟨lw_p105, List.forall_mem_cons.mpr ⟨lw_p106, List.forall_mem_cons.mpr ⟨lw_p107, List.forall_mem_cons.mpr ⟨lw_p108, List.forall_mem_cons.mpr ⟨lw_p109, List.forall_mem_cons.mpr ⟨lw_p110, List.forall_mem_cons.mpr ⟨lw_p111, fun _ h => absurd h List.not_mem_nil⟩⟩⟩⟩⟩⟩⟩⟩⟩⟩⟩⟩⟩⟩⟩⟩
theorem lw_p112 : lw_okq (⟨"UphillCartsModel", "isHeld", "(III)Z"⟩, 76) := ⟨⟨by decide +kernel, by decide +kernel⟩, List.mem_of_getElem? (i := 1293) (by decide +kernel), List.mem_of_getElem? (i := 1900) (by decide +kernel), List.mem_of_getElem? (i := 1901) (by decide +kernel)⟩
theorem lw_p113 : lw_okq (⟨"UphillCartsModel", "isMeet", "(II)Z"⟩, 76) := ⟨⟨by decide +kernel, by decide +kernel⟩, List.mem_of_getElem? (i := 1293) (by decide +kernel), List.mem_of_getElem? (i := 1917) (by decide +kernel), List.mem_of_getElem? (i := 1918) (by decide +kernel)⟩
theorem lw_p114 : lw_okq (⟨"UphillCartsModel", "meetOf", "(II)I"⟩, 76) := ⟨⟨by decide +kernel, by decide +kernel⟩, List.mem_of_getElem? (i := 1293) (by decide +kernel), List.mem_of_getElem? (i := 1921) (by decide +kernel), List.mem_of_getElem? (i := 1922) (by decide +kernel)⟩
theorem lw_p115 : lw_okq (⟨"UphillCartsModel", "layFits", "(I)V"⟩, 76) := ⟨⟨by decide +kernel, by decide +kernel⟩, List.mem_of_getElem? (i := 1293) (by decide +kernel), List.mem_of_getElem? (i := 1953) (by decide +kernel), List.mem_of_getElem? (i := 1954) (by decide +kernel)⟩
theorem lw_p116 : lw_okq (⟨"UphillCartsModel", "knownMany", "()I"⟩, 76) := ⟨⟨by decide +kernel, by decide +kernel⟩, List.mem_of_getElem? (i := 1293) (by decide +kernel), List.mem_of_getElem? (i := 1957) (by decide +kernel), List.mem_of_getElem? (i := 1958) (by decide +kernel)⟩
theorem lw_p117 : lw_okq (⟨"UphillCartsModel", "fitsBy", "(III)Z"⟩, 76) := ⟨⟨by decide +kernel, by decide +kernel⟩, List.mem_of_getElem? (i := 1293) (by decide +kernel), List.mem_of_getElem? (i := 1961) (by decide +kernel), List.mem_of_getElem? (i := 1962) (by decide +kernel)⟩
theorem lw_p118 : lw_okq (⟨"UphillCartsModel", "oneFits", "(III)V"⟩, 76) := ⟨⟨by decide +kernel, by decide +kernel⟩, List.mem_of_getElem? (i := 1293) (by decide +kernel), List.mem_of_getElem? (i := 1965) (by decide +kernel), List.mem_of_getElem? (i := 1966) (by decide +kernel)⟩
def lw_privs_8 : List (MethodName × Nat) := [(⟨"UphillCartsModel", "isHeld", "(III)Z"⟩, 76), (⟨"UphillCartsModel", "isMeet", "(II)Z"⟩, 76), (⟨"UphillCartsModel", "meetOf", "(II)I"⟩, 76), (⟨"UphillCartsModel", "layFits", "(I)V"⟩, 76), (⟨"UphillCartsModel", "knownMany", "()I"⟩, 76), (⟨"UphillCartsModel", "fitsBy", "(III)Z"⟩, 76), (⟨"UphillCartsModel", "oneFits", "(III)V"⟩, 76)]
theorem lw_r8 : ∀ q ∈ lw_privs_8, lw_okq q := List.forall_mem_cons.mpr ⟨lw_p112, List.forall_mem_cons.mpr ⟨lw_p113, List.forall_mem_cons.mpr ⟨lw_p114, List.forall_mem_cons.mpr ⟨lw_p115, List.forall_mem_cons.mpr ⟨lw_p116, List.forall_mem_cons.mpr ⟨lw_p117, List.forall_mem_cons.mpr ⟨lw_p118, fun _ h => absurd h List.not_mem_nil⟩⟩⟩⟩⟩⟩⟩
def lw_privs : List (MethodName × Nat) := lw_privs_1 ++ (lw_privs_2 ++ (lw_privs_3 ++ (lw_privs_4 ++ (lw_privs_5 ++ (lw_privs_6 ++ (lw_privs_7 ++ (lw_privs_8)))))))
def lw_tbl : List Cond := k2_sels lw_privs ++ tables_1
theorem lw_privs_ok : ∀ q ∈ lw_privs, lw_okq q := by
  show ∀ q ∈ lw_privs_1 ++ (lw_privs_2 ++ (lw_privs_3 ++ (lw_privs_4 ++ (lw_privs_5 ++ (lw_privs_6 ++ (lw_privs_7 ++ (lw_privs_8))))))), lw_okq q
  exact List.forall_mem_append.mpr ⟨lw_r1, List.forall_mem_append.mpr ⟨lw_r2, List.forall_mem_append.mpr ⟨lw_r3, List.forall_mem_append.mpr ⟨lw_r4, List.forall_mem_append.mpr ⟨lw_r5, List.forall_mem_append.mpr ⟨lw_r6, List.forall_mem_append.mpr ⟨lw_r7, lw_r8⟩⟩⟩⟩⟩⟩⟩
theorem goodIn_r {big : List Cond} (ws : List Cond) (ps : List Nat) (hp : ws = ps.filterMap (fun i => big[i]?)) (h : ws.all goodWord = true) : GoodIn big ws := by
  intro w hw
  have h1 := List.all_eq_true.mp h w hw
  rw [hp] at hw
  obtain ⟨i, -, hi⟩ := List.mem_filterMap.mp hw
  have hm : w ∈ big := by first | exact List.mem_of_getElem? hi | exact List.getElem?_mem hi
  exact ⟨hm, good_of_word h1⟩
theorem goodIn_app {big a b : List Cond} (ha : GoodIn big a) (hb : GoodIn big b) : GoodIn big (a ++ b) := fun w h => (List.mem_append.mp h).elim (ha w) (hb w)
theorem goodIn_ca {big a b : List Cond} {c : Cond} (ha : GoodIn big (c :: a)) (hb : GoodIn big b) : GoodIn big (c :: (a ++ b)) := fun w h => (List.mem_cons.mp h).elim (fun e => ha w (List.mem_cons.mpr (Or.inl e))) (fun h => (List.mem_append.mp h).elim (fun h => ha w (List.mem_cons.mpr (Or.inr h))) (hb w))
theorem goodIn_sub {big ws : List Cond} (hm : ∀ w ∈ ws, w ∈ big) (h : ws.all goodWord = true) : GoodIn big ws := fun w hw => ⟨hm w hw, good_of_word (List.all_eq_true.mp h w hw)⟩

def RX0 : String := "UphillCarts$Ballast"
def TX0 : u_T := fun k => match k with
  | 0 => ("UphillCarts$Ballast", "fewest", "[I", true)
  | 1 => ("UphillCarts$Ballast", "least", "[I", true)
  | 2 => ("UphillCarts$Ballast", "greatest", "[I", true)
  | _ => ("UphillCarts$Ballast", "behind", "[I", true)
def tyX0 : Nat → FieldType := fun k => match k with
  | 0 => .array .int
  | 1 => .array .int
  | 2 => .array .int
  | _ => .array .int
abbrev wsX00 : List Cond := u_ws RX0 TX0 4
theorem nmX0 : ∀ a, a < 4 → ∀ b, b < 4 → a ≠ b → (TX0 a).2.1 ≠ (TX0 b).2.1 := by decide +kernel
theorem tyX0_ok : ∀ k, k < 4 → parseFieldDescriptor (TX0 k).2.2.1 = some (tyX0 k) := by decide +kernel
abbrev cX0_init : ByteArray := prog_2_method_1_code
def yX0_init : MethodName := ⟨RX0, "<init>", "()V"⟩
abbrev cX0_plan : ByteArray := prog_2_method_2_code
def yX0_plan : MethodName := ⟨RX0, "plan", "(LUphillCarts$Road;LUphillCarts$Forces;LUphillCarts$Cart;I)I"⟩
abbrev cX0_mostBehind : ByteArray := prog_2_method_3_code
def yX0_mostBehind : MethodName := ⟨RX0, "mostBehind", "(LUphillCarts$Cart;II)I"⟩
abbrev cX0_costOf : ByteArray := prog_2_method_4_code
def yX0_costOf : MethodName := ⟨RX0, "costOf", "(III)I"⟩
abbrev cX0_choose : ByteArray := prog_2_method_5_code
def yX0_choose : MethodName := ⟨RX0, "choose", "(IIIII)I"⟩
abbrev cX0_follow : ByteArray := prog_2_method_6_code
def yX0_follow : MethodName := ⟨RX0, "follow", "(LUphillCarts$Road;LUphillCarts$Cart;I)I"⟩
def RX1 : String := "UphillCarts$Bend"
def TX1 : u_T := fun k => match k with
  | 0 => ("UphillCarts$Bend", "name", "I", false)
  | 1 => ("UphillCarts$Bend", "height", "I", false)
  | 2 => ("UphillCarts$Bend", "wide", "Z", false)
  | 3 => ("UphillCarts$Bend", "wind", "I", false)
  | 4 => ("UphillCarts$Bend", "depot", "I", false)
  | _ => ("UphillCarts$Bend", "thief", "I", false)
def tyX1 : Nat → FieldType := fun k => match k with
  | 0 => .int
  | 1 => .int
  | 2 => .boolean
  | 3 => .int
  | 4 => .int
  | _ => .int
abbrev wsX10 : List Cond := u_ws RX1 TX1 6
theorem nmX1 : ∀ a, a < 6 → ∀ b, b < 6 → a ≠ b → (TX1 a).2.1 ≠ (TX1 b).2.1 := by decide +kernel
theorem tyX1_ok : ∀ k, k < 6 → parseFieldDescriptor (TX1 k).2.2.1 = some (tyX1 k) := by decide +kernel
abbrev cX1_init : ByteArray := prog_3_method_1_code
def yX1_init : MethodName := ⟨RX1, "<init>", "()V"⟩
def RX2 : String := "UphillCarts$Cart"
def TX2 : u_T := fun k => match k with
  | 0 => ("UphillCarts$Cart", "depots", "[I", true)
  | 1 => ("UphillCarts$Cart", "goods", "I", false)
  | 2 => ("UphillCarts$Cart", "bags", "I", false)
  | 3 => ("UphillCarts$Cart", "stones", "I", false)
  | 4 => ("UphillCarts$Cart", "bend", "I", false)
  | 5 => ("UphillCarts$Cart", "hour", "I", false)
  | 6 => ("UphillCarts$Cart", "state", "I", false)
  | _ => ("UphillCarts$Cart", "number", "J", false)
def tyX2 : Nat → FieldType := fun k => match k with
  | 0 => .array .int
  | 1 => .int
  | 2 => .int
  | 3 => .int
  | 4 => .int
  | 5 => .int
  | 6 => .int
  | _ => .long
abbrev wsX20 : List Cond := u_ws RX2 TX2 8
theorem nmX2 : ∀ a, a < 8 → ∀ b, b < 8 → a ≠ b → (TX2 a).2.1 ≠ (TX2 b).2.1 := by decide +kernel
theorem tyX2_ok : ∀ k, k < 8 → parseFieldDescriptor (TX2 k).2.2.1 = some (tyX2 k) := by decide +kernel
abbrev cX2_init : ByteArray := prog_4_method_1_code
def yX2_init : MethodName := ⟨RX2, "<init>", "()V"⟩
abbrev cX2_start : ByteArray := prog_4_method_2_code
def yX2_start : MethodName := ⟨RX2, "start", "(LUphillCarts$Road;)V"⟩
abbrev cX2_becomes : ByteArray := prog_4_method_3_code
def yX2_becomes : MethodName := ⟨RX2, "becomes", "(LUphillCarts$Cart;)V"⟩
abbrev cX2_weighs : ByteArray := prog_4_method_4_code
def yX2_weighs : MethodName := ⟨RX2, "weighs", "(LUphillCarts$Road;)I"⟩
abbrev cX2_stonesAtDepots : ByteArray := prog_4_method_5_code
def yX2_stonesAtDepots : MethodName := ⟨RX2, "stonesAtDepots", "()I"⟩
abbrev cX2_hourGoesBy : ByteArray := prog_4_method_6_code
def yX2_hourGoesBy : MethodName := ⟨RX2, "hourGoesBy", "(LUphillCarts$Road;LUphillCarts$Forces;)V"⟩
abbrev cX2_meetThief : ByteArray := prog_4_method_7_code
def yX2_meetThief : MethodName := ⟨RX2, "meetThief", "(I)V"⟩
def RX3 : String := "UphillCarts$Forces"
def TX3 : u_T := fun k => match k with
  | 0 => ("UphillCarts$Forces", "lifts", "[I", true)
  | 1 => ("UphillCarts$Forces", "pulls", "[I", true)
  | 2 => ("UphillCarts$Forces", "names", "[J", true)
  | 3 => ("UphillCarts$Forces", "values", "[J", true)
  | 4 => ("UphillCarts$Forces", "road", "LUphillCarts$Road;", false)
  | 5 => ("UphillCarts$Forces", "warm", "Z", false)
  | 6 => ("UphillCarts$Forces", "calm", "Z", false)
  | _ => ("UphillCarts$Forces", "times", "I", false)
def tyX3 : Nat → FieldType := fun k => match k with
  | 0 => .array .int
  | 1 => .array .int
  | 2 => .array .long
  | 3 => .array .long
  | 4 => .object "UphillCarts$Road"
  | 5 => .boolean
  | 6 => .boolean
  | _ => .int
abbrev wsX30 : List Cond := u_ws RX3 TX3 8
theorem nmX3 : ∀ a, a < 8 → ∀ b, b < 8 → a ≠ b → (TX3 a).2.1 ≠ (TX3 b).2.1 := by decide +kernel
theorem tyX3_ok : ∀ k, k < 8 → parseFieldDescriptor (TX3 k).2.2.1 = some (tyX3 k) := by decide +kernel
abbrev cX3_init : ByteArray := prog_5_method_1_code
def yX3_init : MethodName := ⟨RX3, "<init>", "(LUphillCarts$Road;)V"⟩
abbrev cX3_ofRoad : ByteArray := prog_5_method_2_code
def yX3_ofRoad : MethodName := ⟨RX3, "ofRoad", "(LUphillCarts$Road;ZZI)V"⟩
abbrev cX3_worked : ByteArray := prog_5_method_3_code
def yX3_worked : MethodName := ⟨RX3, "worked", "(LUphillCarts$Law;III)J"⟩
abbrev cX3_lifted : ByteArray := prog_5_method_4_code
def yX3_lifted : MethodName := ⟨RX3, "lifted", "(III)I"⟩
abbrev cX3_pulled : ByteArray := prog_5_method_5_code
def yX3_pulled : MethodName := ⟨RX3, "pulled", "(II)I"⟩
abbrev cX3_bagsLift : ByteArray := prog_5_method_6_code
def yX3_bagsLift : MethodName := ⟨RX3, "bagsLift", "(III)I"⟩
abbrev cX3_wayFrom : ByteArray := prog_5_method_7_code
def yX3_wayFrom : MethodName := ⟨RX3, "wayFrom", "(III)I"⟩
def RX4 : String := "UphillCarts$Goods"
def TX4 : u_T := fun k => match k with
  | 0 => ("UphillCarts$Goods", "name", "I", false)
  | 1 => ("UphillCarts$Goods", "weight", "I", false)
  | 2 => ("UphillCarts$Goods", "below", "I", false)
  | _ => ("UphillCarts$Goods", "above", "I", false)
def tyX4 : Nat → FieldType := fun k => match k with
  | 0 => .int
  | 1 => .int
  | 2 => .int
  | _ => .int
abbrev wsX40 : List Cond := u_ws RX4 TX4 4
theorem nmX4 : ∀ a, a < 4 → ∀ b, b < 4 → a ≠ b → (TX4 a).2.1 ≠ (TX4 b).2.1 := by decide +kernel
theorem tyX4_ok : ∀ k, k < 4 → parseFieldDescriptor (TX4 k).2.2.1 = some (tyX4 k) := by decide +kernel
abbrev cX4_init : ByteArray := prog_6_method_1_code
def yX4_init : MethodName := ⟨RX4, "<init>", "()V"⟩
abbrev cX4_gain : ByteArray := prog_6_method_2_code
def yX4_gain : MethodName := ⟨RX4, "gain", "()I"⟩
def RX5 : String := "UphillCarts$Law"
def TX5 : u_T := fun k => match k with
  | 0 => ("UphillCarts$Law", "knot", "[I", true)
  | _ => ("UphillCarts$Law", "length", "I", false)
def tyX5 : Nat → FieldType := fun k => match k with
  | 0 => .array .int
  | _ => .int
abbrev wsX50 : List Cond := u_ws RX5 TX5 2
theorem nmX5 : ∀ a, a < 2 → ∀ b, b < 2 → a ≠ b → (TX5 a).2.1 ≠ (TX5 b).2.1 := by decide +kernel
theorem tyX5_ok : ∀ k, k < 2 → parseFieldDescriptor (TX5 k).2.2.1 = some (tyX5 k) := by decide +kernel
abbrev cX5_init : ByteArray := prog_7_method_1_code
def yX5_init : MethodName := ⟨RX5, "<init>", "()V"⟩
abbrev cX5_isTold : ByteArray := prog_7_method_2_code
def yX5_isTold : MethodName := ⟨RX5, "isTold", "()Z"⟩
abbrev cX5_add : ByteArray := prog_7_method_3_code
def yX5_add : MethodName := ⟨RX5, "add", "(I)V"⟩
abbrev cX5_work : ByteArray := prog_7_method_4_code
def yX5_work : MethodName := ⟨RX5, "work", "([J[J)J"⟩
abbrev cX5_joined : ByteArray := prog_7_method_5_code
def yX5_joined : MethodName := ⟨RX5, "joined", "(IJJ)J"⟩
def RX6 : String := "UphillCarts$Loads"
def TX6 : u_T := fun k => match k with
  | 0 => ("UphillCarts$Loads", "least", "[I", true)
  | 1 => ("UphillCarts$Loads", "greatest", "[I", true)
  | 2 => ("UphillCarts$Loads", "weights", "[I", true)
  | 3 => ("UphillCarts$Loads", "road", "LUphillCarts$Road;", false)
  | 4 => ("UphillCarts$Loads", "allGoods", "I", false)
  | 5 => ("UphillCarts$Loads", "allBags", "I", false)
  | 6 => ("UphillCarts$Loads", "goods", "I", false)
  | 7 => ("UphillCarts$Loads", "bags", "I", false)
  | _ => ("UphillCarts$Loads", "stones", "I", false)
def tyX6 : Nat → FieldType := fun k => match k with
  | 0 => .array .int
  | 1 => .array .int
  | 2 => .array .int
  | 3 => .object "UphillCarts$Road"
  | 4 => .int
  | 5 => .int
  | 6 => .int
  | 7 => .int
  | _ => .int
abbrev wsX60 : List Cond := u_ws RX6 TX6 9
theorem nmX6 : ∀ a, a < 9 → ∀ b, b < 9 → a ≠ b → (TX6 a).2.1 ≠ (TX6 b).2.1 := by decide +kernel
theorem tyX6_ok : ∀ k, k < 9 → parseFieldDescriptor (TX6 k).2.2.1 = some (tyX6 k) := by decide +kernel
abbrev cX6_init : ByteArray := prog_8_method_1_code
def yX6_init : MethodName := ⟨RX6, "<init>", "(LUphillCarts$Road;)V"⟩
abbrev cX6_leaveAll : ByteArray := prog_8_method_2_code
def yX6_leaveAll : MethodName := ⟨RX6, "leaveAll", "(LUphillCarts$Road;)V"⟩
abbrev cX6_isLeft : ByteArray := prog_8_method_3_code
def yX6_isLeft : MethodName := ⟨RX6, "isLeft", "(I)Z"⟩
abbrev cX6_narrow : ByteArray := prog_8_method_4_code
def yX6_narrow : MethodName := ⟨RX6, "narrow", "(III)V"⟩
abbrev cX6_leaveThoseUp : ByteArray := prog_8_method_5_code
def yX6_leaveThoseUp : MethodName := ⟨RX6, "leaveThoseUp", "(LUphillCarts$Road;LUphillCarts$Forces;I)V"⟩
abbrev cX6_leaveThoseThatFit : ByteArray := prog_8_method_6_code
def yX6_leaveThoseThatFit : MethodName := ⟨RX6, "leaveThoseThatFit", "(LUphillCarts$Road;LUphillCarts$Forces;LUphillCarts$Seen;)V"⟩
abbrev cX6_fewestStones : ByteArray := prog_8_method_7_code
def yX6_fewestStones : MethodName := ⟨RX6, "fewestStones", "(II)I"⟩
abbrev cX6_mostStones : ByteArray := prog_8_method_8_code
def yX6_mostStones : MethodName := ⟨RX6, "mostStones", "(II)I"⟩
abbrev cX6_findBest : ByteArray := prog_8_method_9_code
def yX6_findBest : MethodName := ⟨RX6, "findBest", "()Z"⟩
abbrev cX6_priceForNone : ByteArray := prog_8_method_10_code
def yX6_priceForNone : MethodName := ⟨RX6, "priceForNone", "()I"⟩
abbrev cX6_canBeCarried : ByteArray := prog_8_method_11_code
def yX6_canBeCarried : MethodName := ⟨RX6, "canBeCarried", "(I)Z"⟩
abbrev cX6_howManyStones : ByteArray := prog_8_method_12_code
def yX6_howManyStones : MethodName := ⟨RX6, "howManyStones", "(II)I"⟩
abbrev cX6_howMany : ByteArray := prog_8_method_13_code
def yX6_howMany : MethodName := ⟨RX6, "howMany", "(I)I"⟩
abbrev cX6_findNumbered : ByteArray := prog_8_method_14_code
def yX6_findNumbered : MethodName := ⟨RX6, "findNumbered", "(I)Z"⟩
def RX7 : String := "UphillCarts$Parser"
def TX7 : u_T := fun k => match k with
  | 0 => ("UphillCarts$Parser", "tokens", "LUphillCarts$Tokens;", true)
  | 1 => ("UphillCarts$Parser", "waiting", "[I", true)
  | 2 => ("UphillCarts$Parser", "top", "I", false)
  | 3 => ("UphillCarts$Parser", "open", "I", false)
  | 4 => ("UphillCarts$Parser", "road", "LUphillCarts$Road;", false)
  | 5 => ("UphillCarts$Parser", "told", "I", false)
  | 6 => ("UphillCarts$Parser", "depotsTold", "I", false)
  | 7 => ("UphillCarts$Parser", "thievesTold", "I", false)
  | 8 => ("UphillCarts$Parser", "number", "I", false)
  | 9 => ("UphillCarts$Parser", "fault", "I", false)
  | _ => ("UphillCarts$Parser", "place", "I", false)
def tyX7 : Nat → FieldType := fun k => match k with
  | 0 => .object "UphillCarts$Tokens"
  | 1 => .array .int
  | 2 => .int
  | 3 => .int
  | 4 => .object "UphillCarts$Road"
  | 5 => .int
  | 6 => .int
  | 7 => .int
  | 8 => .int
  | 9 => .int
  | _ => .int
abbrev wsX70 : List Cond := u_ws RX7 TX7 11
theorem nmX7 : ∀ a, a < 11 → ∀ b, b < 11 → a ≠ b → (TX7 a).2.1 ≠ (TX7 b).2.1 := by decide +kernel
theorem tyX7_ok : ∀ k, k < 11 → parseFieldDescriptor (TX7 k).2.2.1 = some (tyX7 k) := by decide +kernel
abbrev cX7_init : ByteArray := prog_9_method_1_code
def yX7_init : MethodName := ⟨RX7, "<init>", "([BLUphillCarts$Road;)V"⟩
abbrev cX7_parse : ByteArray := prog_9_method_2_code
def yX7_parse : MethodName := ⟨RX7, "parse", "(LUphillCarts$Road;I)Z"⟩
abbrev cX7_fails : ByteArray := prog_9_method_3_code
def yX7_fails : MethodName := ⟨RX7, "fails", "(I)Z"⟩
abbrev cX7_readLine : ByteArray := prog_9_method_4_code
def yX7_readLine : MethodName := ⟨RX7, "readLine", "()Z"⟩
abbrev cX7_isBelow : ByteArray := prog_9_method_5_code
def yX7_isBelow : MethodName := ⟨RX7, "isBelow", "(II)Z"⟩
abbrev cX7_isToldOnce : ByteArray := prog_9_method_6_code
def yX7_isToldOnce : MethodName := ⟨RX7, "isToldOnce", "()Z"⟩
abbrev cX7_takesNumber : ByteArray := prog_9_method_7_code
def yX7_takesNumber : MethodName := ⟨RX7, "takesNumber", "(II)Z"⟩
abbrev cX7_isNewName : ByteArray := prog_9_method_8_code
def yX7_isNewName : MethodName := ⟨RX7, "isNewName", "(I)Z"⟩
abbrev cX7_readBend : ByteArray := prog_9_method_9_code
def yX7_readBend : MethodName := ⟨RX7, "readBend", "()Z"⟩
abbrev cX7_readWind : ByteArray := prog_9_method_10_code
def yX7_readWind : MethodName := ⟨RX7, "readWind", "()Z"⟩
abbrev cX7_readGoods : ByteArray := prog_9_method_11_code
def yX7_readGoods : MethodName := ⟨RX7, "readGoods", "()Z"⟩
abbrev cX7_readBag : ByteArray := prog_9_method_12_code
def yX7_readBag : MethodName := ⟨RX7, "readBag", "()Z"⟩
abbrev cX7_bendToldAhead : ByteArray := prog_9_method_13_code
def yX7_bendToldAhead : MethodName := ⟨RX7, "bendToldAhead", "(I)I"⟩
abbrev cX7_readDepot : ByteArray := prog_9_method_14_code
def yX7_readDepot : MethodName := ⟨RX7, "readDepot", "()Z"⟩
abbrev cX7_readThief : ByteArray := prog_9_method_15_code
def yX7_readThief : MethodName := ⟨RX7, "readThief", "()Z"⟩
abbrev cX7_readWarm : ByteArray := prog_9_method_16_code
def yX7_readWarm : MethodName := ⟨RX7, "readWarm", "()Z"⟩
abbrev cX7_readHorse : ByteArray := prog_9_method_17_code
def yX7_readHorse : MethodName := ⟨RX7, "readHorse", "()Z"⟩
abbrev cX7_readRope : ByteArray := prog_9_method_18_code
def yX7_readRope : MethodName := ⟨RX7, "readRope", "()Z"⟩
abbrev cX7_readStone : ByteArray := prog_9_method_19_code
def yX7_readStone : MethodName := ⟨RX7, "readStone", "()Z"⟩
abbrev cX7_readSeed : ByteArray := prog_9_method_20_code
def yX7_readSeed : MethodName := ⟨RX7, "readSeed", "()Z"⟩
abbrev cX7_readLaw : ByteArray := prog_9_method_21_code
def yX7_readLaw : MethodName := ⟨RX7, "readLaw", "()Z"⟩
abbrev cX7_isOneKnotMore : ByteArray := prog_9_method_22_code
def yX7_isOneKnotMore : MethodName := ⟨RX7, "isOneKnotMore", "()Z"⟩
abbrev cX7_takesValue : ByteArray := prog_9_method_23_code
def yX7_takesValue : MethodName := ⟨RX7, "takesValue", "(LUphillCarts$Law;)Z"⟩
abbrev cX7_takesSign : ByteArray := prog_9_method_24_code
def yX7_takesSign : MethodName := ⟨RX7, "takesSign", "(LUphillCarts$Law;)Z"⟩
abbrev cX7_push : ByteArray := prog_9_method_25_code
def yX7_push : MethodName := ⟨RX7, "push", "(I)V"⟩
abbrev cX7_rankOnTop : ByteArray := prog_9_method_26_code
def yX7_rankOnTop : MethodName := ⟨RX7, "rankOnTop", "()I"⟩
abbrev cX7_settle : ByteArray := prog_9_method_27_code
def yX7_settle : MethodName := ⟨RX7, "settle", "(LUphillCarts$Law;I)V"⟩
abbrev cX7_rankOf : ByteArray := prog_9_method_28_code
def yX7_rankOf : MethodName := ⟨RX7, "rankOf", "(I)I"⟩
def RX8 : String := "UphillCarts$Road"
def TX8 : u_T := fun k => match k with
  | 0 => ("UphillCarts$Road", "bendAt", "[LUphillCarts$Bend;", true)
  | 1 => ("UphillCarts$Road", "goodsAt", "[LUphillCarts$Goods;", true)
  | 2 => ("UphillCarts$Road", "sortName", "[I", true)
  | 3 => ("UphillCarts$Road", "sizeOf", "[I", true)
  | 4 => ("UphillCarts$Road", "manyOf", "[I", true)
  | 5 => ("UphillCarts$Road", "air", "[I", true)
  | 6 => ("UphillCarts$Road", "liftLaw", "LUphillCarts$Law;", true)
  | 7 => ("UphillCarts$Road", "pullLaw", "LUphillCarts$Law;", true)
  | 8 => ("UphillCarts$Road", "bends", "I", false)
  | 9 => ("UphillCarts$Road", "goods", "I", false)
  | 10 => ("UphillCarts$Road", "sorts", "I", false)
  | 11 => ("UphillCarts$Road", "strong", "I", false)
  | 12 => ("UphillCarts$Road", "holds", "I", false)
  | 13 => ("UphillCarts$Road", "rope", "I", false)
  | 14 => ("UphillCarts$Road", "stone", "I", false)
  | 15 => ("UphillCarts$Road", "seed", "I", false)
  | 16 => ("UphillCarts$Road", "knots", "I", false)
  | _ => ("UphillCarts$Road", "lines", "I", false)
def tyX8 : Nat → FieldType := fun k => match k with
  | 0 => .array (.object "UphillCarts$Bend")
  | 1 => .array (.object "UphillCarts$Goods")
  | 2 => .array .int
  | 3 => .array .int
  | 4 => .array .int
  | 5 => .array .int
  | 6 => .object "UphillCarts$Law"
  | 7 => .object "UphillCarts$Law"
  | 8 => .int
  | 9 => .int
  | 10 => .int
  | 11 => .int
  | 12 => .int
  | 13 => .int
  | 14 => .int
  | 15 => .int
  | 16 => .int
  | _ => .int
abbrev wsX80 : List Cond := u_ws RX8 TX8 18
theorem nmX8 : ∀ a, a < 18 → ∀ b, b < 18 → a ≠ b → (TX8 a).2.1 ≠ (TX8 b).2.1 := by decide +kernel
theorem tyX8_ok : ∀ k, k < 18 → parseFieldDescriptor (TX8 k).2.2.1 = some (tyX8 k) := by decide +kernel
abbrev cX8_init : ByteArray := prog_10_method_1_code
def yX8_init : MethodName := ⟨RX8, "<init>", "()V"⟩
abbrev cX8_empty : ByteArray := prog_10_method_2_code
def yX8_empty : MethodName := ⟨RX8, "empty", "()V"⟩
abbrev cX8_findBend : ByteArray := prog_10_method_3_code
def yX8_findBend : MethodName := ⟨RX8, "findBend", "(I)I"⟩
abbrev cX8_findGoods : ByteArray := prog_10_method_4_code
def yX8_findGoods : MethodName := ⟨RX8, "findGoods", "(I)I"⟩
abbrev cX8_findSort : ByteArray := prog_10_method_5_code
def yX8_findSort : MethodName := ⟨RX8, "findSort", "(I)I"⟩
abbrev cX8_slopeTo : ByteArray := prog_10_method_6_code
def yX8_slopeTo : MethodName := ⟨RX8, "slopeTo", "(I)I"⟩
abbrev cX8_weightOf : ByteArray := prog_10_method_7_code
def yX8_weightOf : MethodName := ⟨RX8, "weightOf", "(I)I"⟩
abbrev cX8_gainOf : ByteArray := prog_10_method_8_code
def yX8_gainOf : MethodName := ⟨RX8, "gainOf", "(I)I"⟩
abbrev cX8_hasBags : ByteArray := prog_10_method_9_code
def yX8_hasBags : MethodName := ⟨RX8, "hasBags", "(I)Z"⟩
abbrev cX8_windAt : ByteArray := prog_10_method_10_code
def yX8_windAt : MethodName := ⟨RX8, "windAt", "(I)I"⟩
def RX9 : String := "UphillCarts$Seen"
def TX9 : u_T := fun k => match k with
  | 0 => ("UphillCarts$Seen", "bend", "[I", true)
  | 1 => ("UphillCarts$Seen", "hour", "[I", true)
  | 2 => ("UphillCarts$Seen", "low", "[I", true)
  | 3 => ("UphillCarts$Seen", "high", "[I", true)
  | 4 => ("UphillCarts$Seen", "struck", "[Z", true)
  | 5 => ("UphillCarts$Seen", "strikes", "[I", true)
  | 6 => ("UphillCarts$Seen", "many", "I", false)
  | _ => ("UphillCarts$Seen", "by", "I", false)
def tyX9 : Nat → FieldType := fun k => match k with
  | 0 => .array .int
  | 1 => .array .int
  | 2 => .array .int
  | 3 => .array .int
  | 4 => .array .boolean
  | 5 => .array .int
  | 6 => .int
  | _ => .int
abbrev wsX90 : List Cond := u_ws RX9 TX9 8
theorem nmX9 : ∀ a, a < 8 → ∀ b, b < 8 → a ≠ b → (TX9 a).2.1 ≠ (TX9 b).2.1 := by decide +kernel
theorem tyX9_ok : ∀ k, k < 8 → parseFieldDescriptor (TX9 k).2.2.1 = some (tyX9 k) := by decide +kernel
abbrev cX9_init : ByteArray := prog_11_method_1_code
def yX9_init : MethodName := ⟨RX9, "<init>", "()V"⟩
abbrev cX9_forgetAll : ByteArray := prog_11_method_2_code
def yX9_forgetAll : MethodName := ⟨RX9, "forgetAll", "()V"⟩
abbrev cX9_add : ByteArray := prog_11_method_3_code
def yX9_add : MethodName := ⟨RX9, "add", "(IIII)I"⟩
abbrev cX9_addStrike : ByteArray := prog_11_method_4_code
def yX9_addStrike : MethodName := ⟨RX9, "addStrike", "(I)I"⟩
abbrev cX9_isStrike : ByteArray := prog_11_method_5_code
def yX9_isStrike : MethodName := ⟨RX9, "isStrike", "(I)Z"⟩
abbrev cX9_knownBy : ByteArray := prog_11_method_6_code
def yX9_knownBy : MethodName := ⟨RX9, "knownBy", "()I"⟩
abbrev cX9_findStruck : ByteArray := prog_11_method_7_code
def yX9_findStruck : MethodName := ⟨RX9, "findStruck", "()V"⟩
def RX10 : String := "UphillCarts$Tokens"
def TX10 : u_T := fun k => match k with
  | 0 => ("UphillCarts$Tokens", "tape", "[B", true)
  | 1 => ("UphillCarts$Tokens", "language", "[I", true)
  | 2 => ("UphillCarts$Tokens", "length", "I", false)
  | 3 => ("UphillCarts$Tokens", "next", "I", false)
  | 4 => ("UphillCarts$Tokens", "kind", "I", false)
  | 5 => ("UphillCarts$Tokens", "value", "I", false)
  | _ => ("UphillCarts$Tokens", "place", "I", false)
def tyX10 : Nat → FieldType := fun k => match k with
  | 0 => .array .byte
  | 1 => .array .int
  | 2 => .int
  | 3 => .int
  | 4 => .int
  | 5 => .int
  | _ => .int
abbrev wsX100 : List Cond := u_ws RX10 TX10 7
theorem nmX10 : ∀ a, a < 7 → ∀ b, b < 7 → a ≠ b → (TX10 a).2.1 ≠ (TX10 b).2.1 := by decide +kernel
theorem tyX10_ok : ∀ k, k < 7 → parseFieldDescriptor (TX10 k).2.2.1 = some (tyX10 k) := by decide +kernel
abbrev cX10_init : ByteArray := prog_12_method_1_code
def yX10_init : MethodName := ⟨RX10, "<init>", "([B)V"⟩
abbrev cX10_lettersOf : ByteArray := prog_12_method_2_code
def yX10_lettersOf : MethodName := ⟨RX10, "lettersOf", "(II)I"⟩
abbrev cX10_begin : ByteArray := prog_12_method_3_code
def yX10_begin : MethodName := ⟨RX10, "begin", "(I)V"⟩
abbrev cX10_step : ByteArray := prog_12_method_4_code
def yX10_step : MethodName := ⟨RX10, "step", "()V"⟩
abbrev cX10_isLetter : ByteArray := prog_12_method_5_code
def yX10_isLetter : MethodName := ⟨RX10, "isLetter", "(B)Z"⟩
abbrev cX10_isDigit : ByteArray := prog_12_method_6_code
def yX10_isDigit : MethodName := ⟨RX10, "isDigit", "(B)Z"⟩
abbrev cX10_readWord : ByteArray := prog_12_method_7_code
def yX10_readWord : MethodName := ⟨RX10, "readWord", "()V"⟩
abbrev cX10_kindOf : ByteArray := prog_12_method_8_code
def yX10_kindOf : MethodName := ⟨RX10, "kindOf", "(I)I"⟩
abbrev cX10_readNumber : ByteArray := prog_12_method_9_code
def yX10_readNumber : MethodName := ⟨RX10, "readNumber", "()V"⟩
abbrev cX10_signOf : ByteArray := prog_12_method_10_code
def yX10_signOf : MethodName := ⟨RX10, "signOf", "(B)I"⟩
abbrev cX10_readSecondSign : ByteArray := prog_12_method_11_code
def yX10_readSecondSign : MethodName := ⟨RX10, "readSecondSign", "()V"⟩
def RX11 : String := "UphillCarts"
def TX11 : u_T := fun k => match k with
  | 0 => ("UphillCarts", "tape", "[B", true)
  | 1 => ("UphillCarts", "fed", "I", false)
  | 2 => ("UphillCarts", "fault", "I", false)
  | 3 => ("UphillCarts", "place", "I", false)
  | 4 => ("UphillCarts", "parser", "LUphillCarts$Parser;", true)
  | 5 => ("UphillCarts", "road", "LUphillCarts$Road;", false)
  | 6 => ("UphillCarts", "spare", "LUphillCarts$Road;", false)
  | 7 => ("UphillCarts", "forces", "LUphillCarts$Forces;", true)
  | 8 => ("UphillCarts", "otherwise", "LUphillCarts$Forces;", true)
  | 9 => ("UphillCarts", "loads", "LUphillCarts$Loads;", true)
  | 10 => ("UphillCarts", "weights", "LUphillCarts$Ballast;", true)
  | 11 => ("UphillCarts", "seen", "LUphillCarts$Seen;", true)
  | 12 => ("UphillCarts", "cart", "LUphillCarts$Cart;", true)
  | 13 => ("UphillCarts", "image", "LUphillCarts$Cart;", true)
  | 14 => ("UphillCarts", "trial", "LUphillCarts$Cart;", true)
  | 15 => ("UphillCarts", "imaged", "Z", false)
  | 16 => ("UphillCarts", "imageKnownBy", "I", false)
  | 17 => ("UphillCarts", "past", "[I", true)
  | _ => ("UphillCarts", "undoable", "I", false)
def tyX11 : Nat → FieldType := fun k => match k with
  | 0 => .array .byte
  | 1 => .int
  | 2 => .int
  | 3 => .int
  | 4 => .object "UphillCarts$Parser"
  | 5 => .object "UphillCarts$Road"
  | 6 => .object "UphillCarts$Road"
  | 7 => .object "UphillCarts$Forces"
  | 8 => .object "UphillCarts$Forces"
  | 9 => .object "UphillCarts$Loads"
  | 10 => .object "UphillCarts$Ballast"
  | 11 => .object "UphillCarts$Seen"
  | 12 => .object "UphillCarts$Cart"
  | 13 => .object "UphillCarts$Cart"
  | 14 => .object "UphillCarts$Cart"
  | 15 => .boolean
  | 16 => .int
  | 17 => .array .int
  | _ => .int
abbrev wsX110 : List Cond := u_ws RX11 TX11 19
theorem nmX11 : ∀ a, a < 19 → ∀ b, b < 19 → a ≠ b → (TX11 a).2.1 ≠ (TX11 b).2.1 := by decide +kernel
theorem tyX11_ok : ∀ k, k < 19 → parseFieldDescriptor (TX11 k).2.2.1 = some (tyX11 k) := by decide +kernel
abbrev cX11_init : ByteArray := prog_1_method_1_code
def yX11_init : MethodName := ⟨RX11, "<init>", "()V"⟩
abbrev cX11_begin : ByteArray := prog_1_method_2_code
def yX11_begin : MethodName := ⟨RX11, "begin", "()V"⟩
abbrev cX11_feed : ByteArray := prog_1_method_3_code
def yX11_feed : MethodName := ⟨RX11, "feed", "(IIIII)I"⟩
abbrev cX11_addBytes : ByteArray := prog_1_method_4_code
def yX11_addBytes : MethodName := ⟨RX11, "addBytes", "(I)V"⟩
abbrev cX11_text : ByteArray := prog_1_method_5_code
def yX11_text : MethodName := ⟨RX11, "text", "(I)I"⟩
abbrev cX11_fault : ByteArray := prog_1_method_6_code
def yX11_fault : MethodName := ⟨RX11, "fault", "(I)I"⟩
abbrev cX11_named : ByteArray := prog_1_method_7_code
def yX11_named : MethodName := ⟨RX11, "named", "(II)I"⟩
abbrev cX11_look : ByteArray := prog_1_method_8_code
def yX11_look : MethodName := ⟨RX11, "look", "(II)I"⟩
abbrev cX11_goods : ByteArray := prog_1_method_9_code
def yX11_goods : MethodName := ⟨RX11, "goods", "(II)I"⟩
abbrev cX11_bag : ByteArray := prog_1_method_10_code
def yX11_bag : MethodName := ⟨RX11, "bag", "(II)I"⟩
abbrev cX11_lift : ByteArray := prog_1_method_11_code
def yX11_lift : MethodName := ⟨RX11, "lift", "(III)I"⟩
abbrev cX11_pull : ByteArray := prog_1_method_12_code
def yX11_pull : MethodName := ⟨RX11, "pull", "(II)I"⟩
abbrev cX11_net : ByteArray := prog_1_method_13_code
def yX11_net : MethodName := ⟨RX11, "net", "(II)I"⟩
abbrev cX11_law : ByteArray := prog_1_method_14_code
def yX11_law : MethodName := ⟨RX11, "law", "(IIII)J"⟩
abbrev cX11_load : ByteArray := prog_1_method_15_code
def yX11_load : MethodName := ⟨RX11, "load", "(IZ)Z"⟩
abbrev cX11_tie : ByteArray := prog_1_method_16_code
def yX11_tie : MethodName := ⟨RX11, "tie", "(II)Z"⟩
abbrev cX11_stones : ByteArray := prog_1_method_17_code
def yX11_stones : MethodName := ⟨RX11, "stones", "(I)Z"⟩
abbrev cX11_at : ByteArray := prog_1_method_18_code
def yX11_at : MethodName := ⟨RX11, "at", "(I)Z"⟩
abbrev cX11_go : ByteArray := prog_1_method_19_code
def yX11_go : MethodName := ⟨RX11, "go", "(I)I"⟩
abbrev cX11_trade : ByteArray := prog_1_method_20_code
def yX11_trade : MethodName := ⟨RX11, "trade", "(I)I"⟩
abbrev cX11_led : ByteArray := prog_1_method_21_code
def yX11_led : MethodName := ⟨RX11, "led", "(II)I"⟩
abbrev cX11_when : ByteArray := prog_1_method_22_code
def yX11_when : MethodName := ⟨RX11, "when", "()I"⟩
abbrev cX11_hoursUp : ByteArray := prog_1_method_23_code
def yX11_hoursUp : MethodName := ⟨RX11, "hoursUp", "()I"⟩
abbrev cX11_span : ByteArray := prog_1_method_24_code
def yX11_span : MethodName := ⟨RX11, "span", "(I)I"⟩
abbrev cX11_rowFrom : ByteArray := prog_1_method_25_code
def yX11_rowFrom : MethodName := ⟨RX11, "rowFrom", "(II)I"⟩
abbrev cX11_most : ByteArray := prog_1_method_26_code
def yX11_most : MethodName := ⟨RX11, "most", "(II)I"⟩
abbrev cX11_ballast : ByteArray := prog_1_method_27_code
def yX11_ballast : MethodName := ⟨RX11, "ballast", "(I)I"⟩
abbrev cX11_behind : ByteArray := prog_1_method_28_code
def yX11_behind : MethodName := ⟨RX11, "behind", "(II)I"⟩
abbrev cX11_ropes : ByteArray := prog_1_method_29_code
def yX11_ropes : MethodName := ⟨RX11, "ropes", "(I)I"⟩
abbrev cX11_meet : ByteArray := prog_1_method_30_code
def yX11_meet : MethodName := ⟨RX11, "meet", "(III)I"⟩
abbrev cX11_meetingBend : ByteArray := prog_1_method_31_code
def yX11_meetingBend : MethodName := ⟨RX11, "meetingBend", "(II)I"⟩
abbrev cX11_waits : ByteArray := prog_1_method_32_code
def yX11_waits : MethodName := ⟨RX11, "waits", "(II)I"⟩
abbrev cX11_worth : ByteArray := prog_1_method_33_code
def yX11_worth : MethodName := ⟨RX11, "worth", "(II)I"⟩
abbrev cX11_toll : ByteArray := prog_1_method_34_code
def yX11_toll : MethodName := ⟨RX11, "toll", "(I)I"⟩
abbrev cX11_lands : ByteArray := prog_1_method_35_code
def yX11_lands : MethodName := ⟨RX11, "lands", "(I)I"⟩
abbrev cX11_see : ByteArray := prog_1_method_36_code
def yX11_see : MethodName := ⟨RX11, "see", "(IIII)I"⟩
abbrev cX11_strike : ByteArray := prog_1_method_37_code
def yX11_strike : MethodName := ⟨RX11, "strike", "(I)I"⟩
abbrev cX11_known : ByteArray := prog_1_method_38_code
def yX11_known : MethodName := ⟨RX11, "known", "(I)Z"⟩
abbrev cX11_fits : ByteArray := prog_1_method_39_code
def yX11_fits : MethodName := ⟨RX11, "fits", "()I"⟩
abbrev cX11_fit : ByteArray := prog_1_method_40_code
def yX11_fit : MethodName := ⟨RX11, "fit", "(II)I"⟩
abbrev cX11_sure : ByteArray := prog_1_method_41_code
def yX11_sure : MethodName := ⟨RX11, "sure", "(I)I"⟩
abbrev cX11_chance : ByteArray := prog_1_method_42_code
def yX11_chance : MethodName := ⟨RX11, "chance", "(I)I"⟩
abbrev cX11_tried : ByteArray := prog_1_method_43_code
def yX11_tried : MethodName := ⟨RX11, "tried", "(III)I"⟩
abbrev cX11_isTrial : ByteArray := prog_1_method_44_code
def yX11_isTrial : MethodName := ⟨RX11, "isTrial", "(II)Z"⟩
abbrev cX11_undo : ByteArray := prog_1_method_45_code
def yX11_undo : MethodName := ⟨RX11, "undo", "()I"⟩
abbrev cX11_remember : ByteArray := prog_1_method_46_code
def yX11_remember : MethodName := ⟨RX11, "remember", "()V"⟩
abbrev cX11_keep : ByteArray := prog_1_method_47_code
def yX11_keep : MethodName := ⟨RX11, "keep", "()I"⟩
abbrev cX11_back : ByteArray := prog_1_method_48_code
def yX11_back : MethodName := ⟨RX11, "back", "()I"⟩
abbrev cX11_count : ByteArray := prog_1_method_49_code
def yX11_count : MethodName := ⟨RX11, "count", "(I)I"⟩
abbrev cX11_isBend : ByteArray := prog_1_method_50_code
def yX11_isBend : MethodName := ⟨RX11, "isBend", "(I)Z"⟩
abbrev cX11_isGoods : ByteArray := prog_1_method_51_code
def yX11_isGoods : MethodName := ⟨RX11, "isGoods", "(I)Z"⟩
abbrev cX11_isSort : ByteArray := prog_1_method_52_code
def yX11_isSort : MethodName := ⟨RX11, "isSort", "(I)Z"⟩
abbrev cX11_isHour : ByteArray := prog_1_method_53_code
def yX11_isHour : MethodName := ⟨RX11, "isHour", "(I)Z"⟩
abbrev cX11_hasWays : ByteArray := prog_1_method_54_code
def yX11_hasWays : MethodName := ⟨RX11, "hasWays", "()Z"⟩
abbrev cX11_canBeLoaded : ByteArray := prog_1_method_55_code
def yX11_canBeLoaded : MethodName := ⟨RX11, "canBeLoaded", "()Z"⟩
def RX12 : String := "UphillCartsModel"
def TX12 : u_T := fun k => match k with
  | 0 => ("UphillCartsModel", "thrown", "I", false)
  | 1 => ("UphillCartsModel", "tape", "[I", true)
  | 2 => ("UphillCartsModel", "taped", "I", false)
  | 3 => ("UphillCartsModel", "number", "[I", true)
  | 4 => ("UphillCartsModel", "bendName", "[I", true)
  | 5 => ("UphillCartsModel", "height", "[I", true)
  | 6 => ("UphillCartsModel", "isWide", "[Z", true)
  | 7 => ("UphillCartsModel", "wind", "[I", true)
  | 8 => ("UphillCartsModel", "depotAs", "[I", true)
  | 9 => ("UphillCartsModel", "thief", "[I", true)
  | 10 => ("UphillCartsModel", "goodsName", "[I", true)
  | 11 => ("UphillCartsModel", "weight", "[I", true)
  | 12 => ("UphillCartsModel", "below", "[I", true)
  | 13 => ("UphillCartsModel", "above", "[I", true)
  | 14 => ("UphillCartsModel", "bagName", "[I", true)
  | 15 => ("UphillCartsModel", "bagSize", "[I", true)
  | 16 => ("UphillCartsModel", "bagMany", "[I", true)
  | 17 => ("UphillCartsModel", "air", "[I", true)
  | 18 => ("UphillCartsModel", "sumFrom", "[I", true)
  | 19 => ("UphillCartsModel", "sumTo", "[I", true)
  | 20 => ("UphillCartsModel", "knotSort", "[I", true)
  | 21 => ("UphillCartsModel", "knotValue", "[I", true)
  | 22 => ("UphillCartsModel", "told", "I", false)
  | 23 => ("UphillCartsModel", "depotsTold", "I", false)
  | 24 => ("UphillCartsModel", "thievesTold", "I", false)
  | 25 => ("UphillCartsModel", "lines", "I", false)
  | 26 => ("UphillCartsModel", "size", "I", false)
  | 27 => ("UphillCartsModel", "at", "I", false)
  | 28 => ("UphillCartsModel", "place", "I", false)
  | 29 => ("UphillCartsModel", "sort", "I", false)
  | 30 => ("UphillCartsModel", "value", "I", false)
  | 31 => ("UphillCartsModel", "fault", "I", false)
  | 32 => ("UphillCartsModel", "faultPlace", "I", false)
  | 33 => ("UphillCartsModel", "lastFault", "I", false)
  | 34 => ("UphillCartsModel", "lastPlace", "I", false)
  | 35 => ("UphillCartsModel", "open", "I", false)
  | 36 => ("UphillCartsModel", "counted", "I", false)
  | 37 => ("UphillCartsModel", "hour", "[I", true)
  | 38 => ("UphillCartsModel", "bend", "[I", true)
  | 39 => ("UphillCartsModel", "state", "[I", true)
  | 40 => ("UphillCartsModel", "loaded", "[I", true)
  | 41 => ("UphillCartsModel", "tied", "[I", true)
  | 42 => ("UphillCartsModel", "stones", "[I", true)
  | 43 => ("UphillCartsModel", "drawn", "[I", true)
  | 44 => ("UphillCartsModel", "depot", "[I", true)
  | 45 => ("UphillCartsModel", "hasImage", "Z", false)
  | 46 => ("UphillCartsModel", "undoMany", "I", false)
  | 47 => ("UphillCartsModel", "names", "[J", true)
  | 48 => ("UphillCartsModel", "worked", "[J", true)
  | 49 => ("UphillCartsModel", "workedMany", "I", false)
  | 50 => ("UphillCartsModel", "tryWhat", "I", false)
  | 51 => ("UphillCartsModel", "lifts", "[I", true)
  | 52 => ("UphillCartsModel", "pulls", "[I", true)
  | 53 => ("UphillCartsModel", "wayEnd", "I", false)
  | 54 => ("UphillCartsModel", "mostGain", "I", false)
  | 55 => ("UphillCartsModel", "mostGoods", "I", false)
  | 56 => ("UphillCartsModel", "mostBags", "I", false)
  | 57 => ("UphillCartsModel", "mostStones", "I", false)
  | 58 => ("UphillCartsModel", "mostToll", "I", false)
  | 59 => ("UphillCartsModel", "changes", "[I", true)
  | 60 => ("UphillCartsModel", "meetHour", "I", false)
  | 61 => ("UphillCartsModel", "seen", "I", false)
  | 62 => ("UphillCartsModel", "knownBy", "I", false)
  | 63 => ("UphillCartsModel", "seenBend", "[I", true)
  | 64 => ("UphillCartsModel", "seenHour", "[I", true)
  | 65 => ("UphillCartsModel", "seenLow", "[I", true)
  | 66 => ("UphillCartsModel", "seenHigh", "[I", true)
  | 67 => ("UphillCartsModel", "strikes", "[I", true)
  | 68 => ("UphillCartsModel", "isStruck", "[Z", true)
  | 69 => ("UphillCartsModel", "fitMany", "I", false)
  | 70 => ("UphillCartsModel", "fitWanted", "I", false)
  | 71 => ("UphillCartsModel", "fitGoods", "I", false)
  | 72 => ("UphillCartsModel", "fitBags", "I", false)
  | 73 => ("UphillCartsModel", "fitStones", "I", false)
  | 74 => ("UphillCartsModel", "fitAll", "I", false)
  | _ => ("UphillCartsModel", "fitSome", "I", false)
def tyX12 : Nat → FieldType := fun k => match k with
  | 0 => .int
  | 1 => .array .int
  | 2 => .int
  | 3 => .array .int
  | 4 => .array .int
  | 5 => .array .int
  | 6 => .array .boolean
  | 7 => .array .int
  | 8 => .array .int
  | 9 => .array .int
  | 10 => .array .int
  | 11 => .array .int
  | 12 => .array .int
  | 13 => .array .int
  | 14 => .array .int
  | 15 => .array .int
  | 16 => .array .int
  | 17 => .array .int
  | 18 => .array .int
  | 19 => .array .int
  | 20 => .array .int
  | 21 => .array .int
  | 22 => .int
  | 23 => .int
  | 24 => .int
  | 25 => .int
  | 26 => .int
  | 27 => .int
  | 28 => .int
  | 29 => .int
  | 30 => .int
  | 31 => .int
  | 32 => .int
  | 33 => .int
  | 34 => .int
  | 35 => .int
  | 36 => .int
  | 37 => .array .int
  | 38 => .array .int
  | 39 => .array .int
  | 40 => .array .int
  | 41 => .array .int
  | 42 => .array .int
  | 43 => .array .int
  | 44 => .array .int
  | 45 => .boolean
  | 46 => .int
  | 47 => .array .long
  | 48 => .array .long
  | 49 => .int
  | 50 => .int
  | 51 => .array .int
  | 52 => .array .int
  | 53 => .int
  | 54 => .int
  | 55 => .int
  | 56 => .int
  | 57 => .int
  | 58 => .int
  | 59 => .array .int
  | 60 => .int
  | 61 => .int
  | 62 => .int
  | 63 => .array .int
  | 64 => .array .int
  | 65 => .array .int
  | 66 => .array .int
  | 67 => .array .int
  | 68 => .array .boolean
  | 69 => .int
  | 70 => .int
  | 71 => .int
  | 72 => .int
  | 73 => .int
  | 74 => .int
  | _ => .int
abbrev wsX120 : List Cond := u_ws RX12 TX12 76
theorem nmX12 : ∀ a, a < 76 → ∀ b, b < 76 → a ≠ b → (TX12 a).2.1 ≠ (TX12 b).2.1 := by decide +kernel
theorem tyX12_ok : ∀ k, k < 76 → parseFieldDescriptor (TX12 k).2.2.1 = some (tyX12 k) := by decide +kernel
abbrev cX12_init : ByteArray := prog_14_method_1_code
def yX12_init : MethodName := ⟨RX12, "<init>", "()V"⟩
abbrev cX12_thrown : ByteArray := prog_14_method_2_code
def yX12_thrown : MethodName := ⟨RX12, "thrown", "()I"⟩
abbrev cX12_feed : ByteArray := prog_14_method_3_code
def yX12_feed : MethodName := ⟨RX12, "feed", "(IIIII)I"⟩
abbrev cX12_here : ByteArray := prog_14_method_4_code
def yX12_here : MethodName := ⟨RX12, "here", "()I"⟩
abbrev cX12_isSmall : ByteArray := prog_14_method_5_code
def yX12_isSmall : MethodName := ⟨RX12, "isSmall", "(I)Z"⟩
abbrev cX12_isDigit : ByteArray := prog_14_method_6_code
def yX12_isDigit : MethodName := ⟨RX12, "isDigit", "(I)Z"⟩
abbrev cX12_token : ByteArray := prog_14_method_7_code
def yX12_token : MethodName := ⟨RX12, "token", "()V"⟩
abbrev cX12_sign : ByteArray := prog_14_method_8_code
def yX12_sign : MethodName := ⟨RX12, "sign", "(I)V"⟩
abbrev cX12_word : ByteArray := prog_14_method_9_code
def yX12_word : MethodName := ⟨RX12, "word", "()I"⟩
abbrev cX12_name : ByteArray := prog_14_method_10_code
def yX12_name : MethodName := ⟨RX12, "name", "()V"⟩
abbrev cX12_wrong : ByteArray := prog_14_method_11_code
def yX12_wrong : MethodName := ⟨RX12, "wrong", "(I)V"⟩
abbrev cX12_isWord : ByteArray := prog_14_method_12_code
def yX12_isWord : MethodName := ⟨RX12, "isWord", "(I)Z"⟩
abbrev cX12_isSign : ByteArray := prog_14_method_13_code
def yX12_isSign : MethodName := ⟨RX12, "isSign", "(I)Z"⟩
abbrev cX12_goOn : ByteArray := prog_14_method_14_code
def yX12_goOn : MethodName := ⟨RX12, "goOn", "()V"⟩
abbrev cX12_numeral : ByteArray := prog_14_method_15_code
def yX12_numeral : MethodName := ⟨RX12, "numeral", "(II)I"⟩
abbrev cX12_found : ByteArray := prog_14_method_16_code
def yX12_found : MethodName := ⟨RX12, "found", "([IIII)I"⟩
abbrev cX12_fresh : ByteArray := prog_14_method_17_code
def yX12_fresh : MethodName := ⟨RX12, "fresh", "([III)I"⟩
abbrev cX12_fresher : ByteArray := prog_14_method_18_code
def yX12_fresher : MethodName := ⟨RX12, "fresher", "(I)I"⟩
abbrev cX12_reads : ByteArray := prog_14_method_19_code
def yX12_reads : MethodName := ⟨RX12, "reads", "(II)V"⟩
abbrev cX12_isFull : ByteArray := prog_14_method_20_code
def yX12_isFull : MethodName := ⟨RX12, "isFull", "(I)Z"⟩
abbrev cX12_line : ByteArray := prog_14_method_21_code
def yX12_line : MethodName := ⟨RX12, "line", "()V"⟩
abbrev cX12_bendLine : ByteArray := prog_14_method_22_code
def yX12_bendLine : MethodName := ⟨RX12, "bendLine", "(I)V"⟩
abbrev cX12_bendAtHand : ByteArray := prog_14_method_23_code
def yX12_bendAtHand : MethodName := ⟨RX12, "bendAtHand", "(I)I"⟩
abbrev cX12_warmLine : ByteArray := prog_14_method_24_code
def yX12_warmLine : MethodName := ⟨RX12, "warmLine", "()V"⟩
abbrev cX12_lawLine : ByteArray := prog_14_method_25_code
def yX12_lawLine : MethodName := ⟨RX12, "lawLine", "()V"⟩
abbrev cX12_puts : ByteArray := prog_14_method_26_code
def yX12_puts : MethodName := ⟨RX12, "puts", "(II)V"⟩
abbrev cX12_knot : ByteArray := prog_14_method_27_code
def yX12_knot : MethodName := ⟨RX12, "knot", "()V"⟩
abbrev cX12_expression : ByteArray := prog_14_method_28_code
def yX12_expression : MethodName := ⟨RX12, "expression", "()V"⟩
abbrev cX12_conjunction : ByteArray := prog_14_method_29_code
def yX12_conjunction : MethodName := ⟨RX12, "conjunction", "()V"⟩
abbrev cX12_negation : ByteArray := prog_14_method_30_code
def yX12_negation : MethodName := ⟨RX12, "negation", "()V"⟩
abbrev cX12_sum : ByteArray := prog_14_method_31_code
def yX12_sum : MethodName := ⟨RX12, "sum", "()V"⟩
abbrev cX12_product : ByteArray := prog_14_method_32_code
def yX12_product : MethodName := ⟨RX12, "product", "()V"⟩
abbrev cX12_primary : ByteArray := prog_14_method_33_code
def yX12_primary : MethodName := ⟨RX12, "primary", "()V"⟩
abbrev cX12_half : ByteArray := prog_14_method_34_code
def yX12_half : MethodName := ⟨RX12, "half", "([I)V"⟩
abbrev cX12_text : ByteArray := prog_14_method_35_code
def yX12_text : MethodName := ⟨RX12, "text", "(I)I"⟩
abbrev cX12_fault : ByteArray := prog_14_method_36_code
def yX12_fault : MethodName := ⟨RX12, "fault", "(I)I"⟩
abbrev cX12_named : ByteArray := prog_14_method_37_code
def yX12_named : MethodName := ⟨RX12, "named", "(II)I"⟩
abbrev cX12_begins : ByteArray := prog_14_method_38_code
def yX12_begins : MethodName := ⟨RX12, "begins", "()V"⟩
abbrev cX12_copies : ByteArray := prog_14_method_39_code
def yX12_copies : MethodName := ⟨RX12, "copies", "(II)V"⟩
abbrev cX12_isBend : ByteArray := prog_14_method_40_code
def yX12_isBend : MethodName := ⟨RX12, "isBend", "(I)Z"⟩
abbrev cX12_isGoods : ByteArray := prog_14_method_41_code
def yX12_isGoods : MethodName := ⟨RX12, "isGoods", "(I)Z"⟩
abbrev cX12_isSort : ByteArray := prog_14_method_42_code
def yX12_isSort : MethodName := ⟨RX12, "isSort", "(I)Z"⟩
abbrev cX12_isHour : ByteArray := prog_14_method_43_code
def yX12_isHour : MethodName := ⟨RX12, "isHour", "(I)Z"⟩
abbrev cX12_slopeTo : ByteArray := prog_14_method_44_code
def yX12_slopeTo : MethodName := ⟨RX12, "slopeTo", "(I)I"⟩
abbrev cX12_look : ByteArray := prog_14_method_45_code
def yX12_look : MethodName := ⟨RX12, "look", "(II)I"⟩
abbrev cX12_goods : ByteArray := prog_14_method_46_code
def yX12_goods : MethodName := ⟨RX12, "goods", "(II)I"⟩
abbrev cX12_bag : ByteArray := prog_14_method_47_code
def yX12_bag : MethodName := ⟨RX12, "bag", "(II)I"⟩
abbrev cX12_is : ByteArray := prog_14_method_48_code
def yX12_is : MethodName := ⟨RX12, "is", "(Z)J"⟩
abbrev cX12_works : ByteArray := prog_14_method_49_code
def yX12_works : MethodName := ⟨RX12, "works", "(I)Z"⟩
abbrev cX12_goes : ByteArray := prog_14_method_50_code
def yX12_goes : MethodName := ⟨RX12, "goes", "(I)Z"⟩
abbrev cX12_hasLaw : ByteArray := prog_14_method_51_code
def yX12_hasLaw : MethodName := ⟨RX12, "hasLaw", "(I)Z"⟩
abbrev cX12_within : ByteArray := prog_14_method_52_code
def yX12_within : MethodName := ⟨RX12, "within", "(III)I"⟩
abbrev cX12_strong : ByteArray := prog_14_method_53_code
def yX12_strong : MethodName := ⟨RX12, "strong", "()I"⟩
abbrev cX12_calls : ByteArray := prog_14_method_54_code
def yX12_calls : MethodName := ⟨RX12, "calls", "(III)V"⟩
abbrev cX12_liftOf : ByteArray := prog_14_method_55_code
def yX12_liftOf : MethodName := ⟨RX12, "liftOf", "(III)I"⟩
abbrev cX12_pullOf : ByteArray := prog_14_method_56_code
def yX12_pullOf : MethodName := ⟨RX12, "pullOf", "(II)I"⟩
abbrev cX12_layLaws : ByteArray := prog_14_method_57_code
def yX12_layLaws : MethodName := ⟨RX12, "layLaws", "()V"⟩
abbrev cX12_netOf : ByteArray := prog_14_method_58_code
def yX12_netOf : MethodName := ⟨RX12, "netOf", "(IIIII)I"⟩
abbrev cX12_lift : ByteArray := prog_14_method_59_code
def yX12_lift : MethodName := ⟨RX12, "lift", "(III)I"⟩
abbrev cX12_pull : ByteArray := prog_14_method_60_code
def yX12_pull : MethodName := ⟨RX12, "pull", "(II)I"⟩
abbrev cX12_net : ByteArray := prog_14_method_61_code
def yX12_net : MethodName := ⟨RX12, "net", "(II)I"⟩
abbrev cX12_law : ByteArray := prog_14_method_62_code
def yX12_law : MethodName := ⟨RX12, "law", "(IIII)J"⟩
abbrev cX12_keepNow : ByteArray := prog_14_method_63_code
def yX12_keepNow : MethodName := ⟨RX12, "keepNow", "()V"⟩
abbrev cX12_isBelow : ByteArray := prog_14_method_64_code
def yX12_isBelow : MethodName := ⟨RX12, "isBelow", "()Z"⟩
abbrev cX12_load : ByteArray := prog_14_method_65_code
def yX12_load : MethodName := ⟨RX12, "load", "(IZ)Z"⟩
abbrev cX12_tie : ByteArray := prog_14_method_66_code
def yX12_tie : MethodName := ⟨RX12, "tie", "(II)Z"⟩
abbrev cX12_stones : ByteArray := prog_14_method_67_code
def yX12_stones : MethodName := ⟨RX12, "stones", "(I)Z"⟩
abbrev cX12_at : ByteArray := prog_14_method_68_code
def yX12_at : MethodName := ⟨RX12, "at", "(I)Z"⟩
abbrev cX12_draw : ByteArray := prog_14_method_69_code
def yX12_draw : MethodName := ⟨RX12, "draw", "(I)I"⟩
abbrev cX12_netAt : ByteArray := prog_14_method_70_code
def yX12_netAt : MethodName := ⟨RX12, "netAt", "(III)I"⟩
abbrev cX12_passes : ByteArray := prog_14_method_71_code
def yX12_passes : MethodName := ⟨RX12, "passes", "(I)V"⟩
abbrev cX12_cuts : ByteArray := prog_14_method_72_code
def yX12_cuts : MethodName := ⟨RX12, "cuts", "(I)V"⟩
abbrev cX12_go : ByteArray := prog_14_method_73_code
def yX12_go : MethodName := ⟨RX12, "go", "(I)I"⟩
abbrev cX12_trade : ByteArray := prog_14_method_74_code
def yX12_trade : MethodName := ⟨RX12, "trade", "(I)I"⟩
abbrev cX12_way : ByteArray := prog_14_method_75_code
def yX12_way : MethodName := ⟨RX12, "way", "(IIIII)I"⟩
abbrev cX12_wayNow : ByteArray := prog_14_method_76_code
def yX12_wayNow : MethodName := ⟨RX12, "wayNow", "(I)I"⟩
abbrev cX12_isFrom : ByteArray := prog_14_method_77_code
def yX12_isFrom : MethodName := ⟨RX12, "isFrom", "(I)Z"⟩
abbrev cX12_led : ByteArray := prog_14_method_78_code
def yX12_led : MethodName := ⟨RX12, "led", "(II)I"⟩
abbrev cX12_whenUp : ByteArray := prog_14_method_79_code
def yX12_whenUp : MethodName := ⟨RX12, "whenUp", "()I"⟩
abbrev cX12_when : ByteArray := prog_14_method_80_code
def yX12_when : MethodName := ⟨RX12, "when", "()I"⟩
abbrev cX12_span : ByteArray := prog_14_method_81_code
def yX12_span : MethodName := ⟨RX12, "span", "(I)I"⟩
abbrev cX12_areBags : ByteArray := prog_14_method_82_code
def yX12_areBags : MethodName := ⟨RX12, "areBags", "(I)Z"⟩
abbrev cX12_gainOf : ByteArray := prog_14_method_83_code
def yX12_gainOf : MethodName := ⟨RX12, "gainOf", "(I)I"⟩
abbrev cX12_poundsOf : ByteArray := prog_14_method_84_code
def yX12_poundsOf : MethodName := ⟨RX12, "poundsOf", "(I)I"⟩
abbrev cX12_layMost : ByteArray := prog_14_method_85_code
def yX12_layMost : MethodName := ⟨RX12, "layMost", "(I)V"⟩
abbrev cX12_most : ByteArray := prog_14_method_86_code
def yX12_most : MethodName := ⟨RX12, "most", "(II)I"⟩
abbrev cX12_toll : ByteArray := prog_14_method_87_code
def yX12_toll : MethodName := ⟨RX12, "toll", "(I)I"⟩
abbrev cX12_isHeld : ByteArray := prog_14_method_88_code
def yX12_isHeld : MethodName := ⟨RX12, "isHeld", "(III)Z"⟩
abbrev cX12_comesOn : ByteArray := prog_14_method_89_code
def yX12_comesOn : MethodName := ⟨RX12, "comesOn", "(III)Z"⟩
abbrev cX12_changesBy : ByteArray := prog_14_method_90_code
def yX12_changesBy : MethodName := ⟨RX12, "changesBy", "(IIII)I"⟩
abbrev cX12_layBallast : ByteArray := prog_14_method_91_code
def yX12_layBallast : MethodName := ⟨RX12, "layBallast", "(I)V"⟩
abbrev cX12_ballast : ByteArray := prog_14_method_92_code
def yX12_ballast : MethodName := ⟨RX12, "ballast", "(I)I"⟩
abbrev cX12_behind : ByteArray := prog_14_method_93_code
def yX12_behind : MethodName := ⟨RX12, "behind", "(II)I"⟩
abbrev cX12_ropes : ByteArray := prog_14_method_94_code
def yX12_ropes : MethodName := ⟨RX12, "ropes", "(I)I"⟩
abbrev cX12_meetOf : ByteArray := prog_14_method_95_code
def yX12_meetOf : MethodName := ⟨RX12, "meetOf", "(II)I"⟩
abbrev cX12_isMeet : ByteArray := prog_14_method_96_code
def yX12_isMeet : MethodName := ⟨RX12, "isMeet", "(II)Z"⟩
abbrev cX12_meet : ByteArray := prog_14_method_97_code
def yX12_meet : MethodName := ⟨RX12, "meet", "(III)I"⟩
abbrev cX12_waits : ByteArray := prog_14_method_98_code
def yX12_waits : MethodName := ⟨RX12, "waits", "(II)I"⟩
abbrev cX12_worth : ByteArray := prog_14_method_99_code
def yX12_worth : MethodName := ⟨RX12, "worth", "(II)I"⟩
abbrev cX12_lands : ByteArray := prog_14_method_100_code
def yX12_lands : MethodName := ⟨RX12, "lands", "(I)I"⟩
abbrev cX12_see : ByteArray := prog_14_method_101_code
def yX12_see : MethodName := ⟨RX12, "see", "(IIII)I"⟩
abbrev cX12_strike : ByteArray := prog_14_method_102_code
def yX12_strike : MethodName := ⟨RX12, "strike", "(I)I"⟩
abbrev cX12_known : ByteArray := prog_14_method_103_code
def yX12_known : MethodName := ⟨RX12, "known", "(I)Z"⟩
abbrev cX12_knownMany : ByteArray := prog_14_method_104_code
def yX12_knownMany : MethodName := ⟨RX12, "knownMany", "()I"⟩
abbrev cX12_fitsBy : ByteArray := prog_14_method_105_code
def yX12_fitsBy : MethodName := ⟨RX12, "fitsBy", "(III)Z"⟩
abbrev cX12_layFits : ByteArray := prog_14_method_106_code
def yX12_layFits : MethodName := ⟨RX12, "layFits", "(I)V"⟩
abbrev cX12_oneFits : ByteArray := prog_14_method_107_code
def yX12_oneFits : MethodName := ⟨RX12, "oneFits", "(III)V"⟩
abbrev cX12_fits : ByteArray := prog_14_method_108_code
def yX12_fits : MethodName := ⟨RX12, "fits", "()I"⟩
abbrev cX12_fit : ByteArray := prog_14_method_109_code
def yX12_fit : MethodName := ⟨RX12, "fit", "(II)I"⟩
abbrev cX12_sure : ByteArray := prog_14_method_110_code
def yX12_sure : MethodName := ⟨RX12, "sure", "(I)I"⟩
abbrev cX12_chance : ByteArray := prog_14_method_111_code
def yX12_chance : MethodName := ⟨RX12, "chance", "(I)I"⟩
abbrev cX12_tried : ByteArray := prog_14_method_112_code
def yX12_tried : MethodName := ⟨RX12, "tried", "(III)I"⟩
abbrev cX12_undo : ByteArray := prog_14_method_113_code
def yX12_undo : MethodName := ⟨RX12, "undo", "()I"⟩
abbrev cX12_keep : ByteArray := prog_14_method_114_code
def yX12_keep : MethodName := ⟨RX12, "keep", "()I"⟩
abbrev cX12_back : ByteArray := prog_14_method_115_code
def yX12_back : MethodName := ⟨RX12, "back", "()I"⟩
abbrev cX12_count : ByteArray := prog_14_method_116_code
def yX12_count : MethodName := ⟨RX12, "count", "(I)I"⟩
def RJ9 : String := "java/lang/Math"
abbrev cJ9_floorDiv_7cf53 : ByteArray := prog_20_method_47_code
def yJ9_floorDiv_7cf53 : MethodName := ⟨RJ9, "floorDiv", "(II)I"⟩
abbrev cJ9_abs_0f7a4 : ByteArray := prog_20_method_59_code
def yJ9_abs_0f7a4 : MethodName := ⟨RJ9, "abs", "(I)I"⟩
abbrev cJ9_abs_067f4 : ByteArray := prog_20_method_61_code
def yJ9_abs_067f4 : MethodName := ⟨RJ9, "abs", "(J)J"⟩
abbrev cJ9_max_7cf53 : ByteArray := prog_20_method_65_code
def yJ9_max_7cf53 : MethodName := ⟨RJ9, "max", "(II)I"⟩
abbrev cJ9_max_f86c9 : ByteArray := prog_20_method_66_code
def yJ9_max_f86c9 : MethodName := ⟨RJ9, "max", "(JJ)J"⟩
abbrev cJ9_min_7cf53 : ByteArray := prog_20_method_69_code
def yJ9_min_7cf53 : MethodName := ⟨RJ9, "min", "(II)I"⟩
abbrev cJ9_min_f86c9 : ByteArray := prog_20_method_70_code
def yJ9_min_f86c9 : MethodName := ⟨RJ9, "min", "(JJ)J"⟩
def RJ0 : String := "java/lang/String"
abbrev cJ0_length_8abf5 : ByteArray := prog_22_method_54_code
def yJ0_length_8abf5 : MethodName := ⟨RJ0, "length", "()I"⟩
abbrev cJ0_charAt_5068e : ByteArray := prog_22_method_56_code
def yJ0_charAt_5068e : MethodName := ⟨RJ0, "charAt", "(I)C"⟩
abbrev cJ0_coder_7d493 : ByteArray := prog_22_method_152_code
def yJ0_coder_7d493 : MethodName := ⟨RJ0, "coder", "()B"⟩
abbrev cJ0_isLatin1_aae02 : ByteArray := prog_22_method_154_code
def yJ0_isLatin1_aae02 : MethodName := ⟨RJ0, "isLatin1", "()Z"⟩
abbrev cJ0_checkIndex_df160 : ByteArray := prog_22_method_155_code
def yJ0_checkIndex_df160 : MethodName := ⟨RJ0, "checkIndex", "(II)V"⟩
def RL : String := "UphillCartsLaw"
abbrev cL_look : ByteArray := method_3_code
def yL_look : MethodName := ⟨RL, "look", "(LUphillCarts;II[J)I"⟩
abbrev cL_law : ByteArray := code
def yL_law : MethodName := ⟨RL, "law", "([I)Z"⟩
abbrev vwCl : List vw_C := [(RX0, TX0, 4), (RX1, TX1, 6), (RX2, TX2, 8), (RX3, TX3, 8), (RX4, TX4, 4), (RX5, TX5, 2), (RX6, TX6, 9), (RX7, TX7, 11), (RX8, TX8, 18), (RX9, TX9, 8), (RX10, TX10, 7), (RX11, TX11, 19), (RX12, TX12, 76)]
end
section
/-! THE PROGRAM AS TABLES (by program, wip/p1/mk.py, out of the printed names). -/
abbrev pEn : Type := Nat × Instr × Nat × Nat
abbrev pMe : Type := Nat × MethodName × ByteArray × Nat × Option FieldType × Nat
def pR : Nat → String := fun c => match c with
  | 0 => RX0
  | 1 => RX1
  | 2 => RX2
  | 3 => RX3
  | 4 => RX4
  | 5 => RX5
  | 6 => RX6
  | 7 => RX7
  | 8 => RX8
  | 9 => RX9
  | 10 => RX10
  | 11 => RX11
  | 12 => RX12
  | _ => RJ9
def pT : Nat → u_T := fun c => match c with
  | 0 => TX0
  | 1 => TX1
  | 2 => TX2
  | 3 => TX3
  | 4 => TX4
  | 5 => TX5
  | 6 => TX6
  | 7 => TX7
  | 8 => TX8
  | 9 => TX9
  | 10 => TX10
  | 11 => TX11
  | 12 => TX12
  | _ => TX12
def pTy : Nat → (Nat → FieldType) := fun c => match c with
  | 0 => tyX0
  | 1 => tyX1
  | 2 => tyX2
  | 3 => tyX3
  | 4 => tyX4
  | 5 => tyX5
  | 6 => tyX6
  | 7 => tyX7
  | 8 => tyX8
  | 9 => tyX9
  | 10 => tyX10
  | 11 => tyX11
  | 12 => tyX12
  | _ => tyX12
def pN : Nat → Nat := fun c => match c with
  | 0 => 4
  | 1 => 6
  | 2 => 8
  | 3 => 8
  | 4 => 4
  | 5 => 2
  | 6 => 9
  | 7 => 11
  | 8 => 18
  | 9 => 8
  | 10 => 7
  | 11 => 19
  | 12 => 76
  | _ => 0
theorem goodIn_up {big b2 ws : List Cond} (h : ∀ w ∈ b2, w ∈ big) (hg : GoodIn b2 ws) : GoodIn big ws := fun w hw => ⟨h w (hg w hw).1, (hg w hw).2⟩
theorem goodIn_ma {α : Type} {big : List Cond} {a b : List α} {f : α → Cond} (ha : GoodIn big (a.map f)) (hb : GoodIn big (b.map f)) : GoodIn big ((a ++ b).map f) := by
  rw [List.map_append]
  exact goodIn_app ha hb
theorem pt_0 : ∀ w ∈ k2_sels lw_privs, w ∈ lw_tbl := fun _ h => List.mem_append_left _ h
theorem pt_1 : ∀ w ∈ tables_1_1, w ∈ lw_tbl := fun _ h => List.mem_append_right _ (List.mem_append_left _ h)
theorem pt_2 : ∀ w ∈ tables_1_2, w ∈ lw_tbl := fun _ h => List.mem_append_right _ (List.mem_append_right _ (List.mem_append_left _ h))
theorem pt_3 : ∀ w ∈ tables_1_3, w ∈ lw_tbl := fun _ h => List.mem_append_right _ (List.mem_append_right _ (List.mem_append_right _ (List.mem_append_left _ h)))
theorem pt_4 : ∀ w ∈ tables_1_4, w ∈ lw_tbl := fun _ h => List.mem_append_right _ (List.mem_append_right _ (List.mem_append_right _ (List.mem_append_right _ (List.mem_append_left _ h))))
theorem pt_5 : ∀ w ∈ tables_1_5, w ∈ lw_tbl := fun _ h => List.mem_append_right _ (List.mem_append_right _ (List.mem_append_right _ (List.mem_append_right _ (List.mem_append_right _ (List.mem_append_left _ h)))))
theorem pt_6 : ∀ w ∈ tables_1_6, w ∈ lw_tbl := fun _ h => List.mem_append_right _ (List.mem_append_right _ (List.mem_append_right _ (List.mem_append_right _ (List.mem_append_right _ (List.mem_append_right _ (List.mem_append_left _ h))))))
theorem pt_7 : ∀ w ∈ tables_1_7, w ∈ lw_tbl := fun _ h => List.mem_append_right _ (List.mem_append_right _ (List.mem_append_right _ (List.mem_append_right _ (List.mem_append_right _ (List.mem_append_right _ (List.mem_append_right _ (List.mem_append_left _ h)))))))
theorem pt_8 : ∀ w ∈ tables_1_8, w ∈ lw_tbl := fun _ h => List.mem_append_right _ (List.mem_append_right _ (List.mem_append_right _ (List.mem_append_right _ (List.mem_append_right _ (List.mem_append_right _ (List.mem_append_right _ (List.mem_append_right _ (List.mem_append_left _ h))))))))
theorem pt_9 : ∀ w ∈ tables_1_9, w ∈ lw_tbl := fun _ h => List.mem_append_right _ (List.mem_append_right _ (List.mem_append_right _ (List.mem_append_right _ (List.mem_append_right _ (List.mem_append_right _ (List.mem_append_right _ (List.mem_append_right _ (List.mem_append_right _ (h)))))))))
def pMs_0 : List pMe := [(11, yX11_init, cX11_init, 1, none, 0), (8, yX8_init, cX8_init, 2, none, 0), (5, yX5_init, cX5_init, 1, none, 0),
  (1, yX1_init, cX1_init, 1, none, 0), (4, yX4_init, cX4_init, 1, none, 0), (8, yX8_empty, cX8_empty, 2, none, 0),
  (7, yX7_init, cX7_init, 3, none, 2)]
def pMs_1 : List pMe := [(10, yX10_init, cX10_init, 5, none, 1), (10, yX10_lettersOf, cX10_lettersOf, 5, (some .int), 2), (3, yX3_init, cX3_init, 2, none, 1),
  (6, yX6_init, cX6_init, 2, none, 1), (0, yX0_init, cX0_init, 1, none, 0), (9, yX9_init, cX9_init, 1, none, 0)]
def pMs_2 : List pMe := [(2, yX2_init, cX2_init, 1, none, 0), (11, yX11_begin, cX11_begin, 1, none, 0), (3, yX3_ofRoad, cX3_ofRoad, 6, none, 4),
  (2, yX2_start, cX2_start, 3, none, 1), (9, yX9_forgetAll, cX9_forgetAll, 1, none, 0), (11, yX11_feed, cX11_feed, 6, (some .int), 5),
  (11, yX11_addBytes, cX11_addBytes, 2, none, 1), (11, yX11_text, cX11_text, 4, (some .int), 1), (7, yX7_parse, cX7_parse, 4, (some .boolean), 2),
  (10, yX10_begin, cX10_begin, 2, none, 1), (13, yJ9_min_7cf53, cJ9_min_7cf53, 2, (some .int), 2), (10, yX10_step, cX10_step, 1, none, 0)]
def pMs_3 : List pMe := [(10, yX10_isLetter, cX10_isLetter, 1, (some .boolean), 1), (10, yX10_readWord, cX10_readWord, 2, none, 0), (10, yX10_kindOf, cX10_kindOf, 3, (some .int), 1),
  (10, yX10_isDigit, cX10_isDigit, 1, (some .boolean), 1), (10, yX10_readNumber, cX10_readNumber, 2, none, 0), (10, yX10_signOf, cX10_signOf, 1, (some .int), 1),
  (10, yX10_readSecondSign, cX10_readSecondSign, 1, none, 0), (7, yX7_readLine, cX7_readLine, 1, (some .boolean), 0), (7, yX7_isBelow, cX7_isBelow, 3, (some .boolean), 2),
  (7, yX7_fails, cX7_fails, 2, (some .boolean), 1), (7, yX7_readBend, cX7_readBend, 2, (some .boolean), 0), (8, yX8_findBend, cX8_findBend, 3, (some .int), 1)]
def pMs_4 : List pMe := [(7, yX7_isNewName, cX7_isNewName, 2, (some .boolean), 1), (7, yX7_takesNumber, cX7_takesNumber, 3, (some .boolean), 2), (7, yX7_readWind, cX7_readWind, 2, (some .boolean), 0),
  (7, yX7_readGoods, cX7_readGoods, 2, (some .boolean), 0), (8, yX8_findGoods, cX8_findGoods, 3, (some .int), 1), (7, yX7_readBag, cX7_readBag, 2, (some .boolean), 0),
  (8, yX8_findSort, cX8_findSort, 3, (some .int), 1), (7, yX7_readDepot, cX7_readDepot, 2, (some .boolean), 0), (7, yX7_bendToldAhead, cX7_bendToldAhead, 3, (some .int), 1),
  (7, yX7_readThief, cX7_readThief, 2, (some .boolean), 0)]
def pMs_5 : List pMe := [(7, yX7_isToldOnce, cX7_isToldOnce, 2, (some .boolean), 0), (7, yX7_readWarm, cX7_readWarm, 2, (some .boolean), 0), (7, yX7_readHorse, cX7_readHorse, 1, (some .boolean), 0),
  (7, yX7_readRope, cX7_readRope, 1, (some .boolean), 0), (7, yX7_readStone, cX7_readStone, 1, (some .boolean), 0), (7, yX7_readSeed, cX7_readSeed, 1, (some .boolean), 0),
  (7, yX7_readLaw, cX7_readLaw, 4, (some .boolean), 0), (5, yX5_isTold, cX5_isTold, 1, (some .boolean), 0), (7, yX7_takesValue, cX7_takesValue, 3, (some .boolean), 1),
  (5, yX5_add, cX5_add, 2, none, 1), (7, yX7_isOneKnotMore, cX7_isOneKnotMore, 1, (some .boolean), 0), (7, yX7_push, cX7_push, 2, none, 1)]
def pMs_6 : List pMe := [(7, yX7_rankOnTop, cX7_rankOnTop, 1, (some .int), 0), (7, yX7_rankOf, cX7_rankOf, 1, (some .int), 1), (7, yX7_settle, cX7_settle, 3, none, 2),
  (7, yX7_takesSign, cX7_takesSign, 3, (some .boolean), 1), (11, yX11_fault, cX11_fault, 2, (some .int), 1), (11, yX11_named, cX11_named, 3, (some .int), 2),
  (11, yX11_goods, cX11_goods, 4, (some .int), 2), (11, yX11_isGoods, cX11_isGoods, 2, (some .boolean), 1), (11, yX11_bag, cX11_bag, 3, (some .int), 2),
  (11, yX11_isSort, cX11_isSort, 2, (some .boolean), 1), (11, yX11_lift, cX11_lift, 4, (some .int), 3), (11, yX11_isBend, cX11_isBend, 2, (some .boolean), 1)]
def pMs_7 : List pMe := [(11, yX11_isHour, cX11_isHour, 1, (some .boolean), 1), (3, yX3_lifted, cX3_lifted, 8, (some .int), 3), (3, yX3_worked, cX3_worked, 6, (some .long), 4),
  (13, yJ9_abs_0f7a4, cJ9_abs_0f7a4, 1, (some .int), 1), (8, yX8_slopeTo, cX8_slopeTo, 2, (some .int), 1), (13, yJ9_max_7cf53, cJ9_max_7cf53, 2, (some .int), 2),
  (5, yX5_work, cX5_work, 8, (some .long), 2), (5, yX5_joined, cX5_joined, 5, (some .long), 3), (13, yJ9_min_f86c9, cJ9_min_f86c9, 4, (some .long), 2),
  (13, yJ9_max_f86c9, cJ9_max_f86c9, 4, (some .long), 2), (11, yX11_pull, cX11_pull, 3, (some .int), 2), (3, yX3_pulled, cX3_pulled, 7, (some .int), 2)]
def pMs_8 : List pMe := [(11, yX11_net, cX11_net, 3, (some .int), 2), (2, yX2_weighs, cX2_weighs, 2, (some .int), 1), (8, yX8_weightOf, cX8_weightOf, 4, (some .int), 1),
  (3, yX3_bagsLift, cX3_bagsLift, 7, (some .int), 3), (11, yX11_law, cX11_law, 5, (some .long), 4), (11, yX11_load, cX11_load, 3, (some .boolean), 2),
  (11, yX11_canBeLoaded, cX11_canBeLoaded, 1, (some .boolean), 0), (11, yX11_remember, cX11_remember, 2, none, 0), (11, yX11_tie, cX11_tie, 4, (some .boolean), 2),
  (11, yX11_stones, cX11_stones, 2, (some .boolean), 1), (11, yX11_at, cX11_at, 2, (some .boolean), 1), (11, yX11_go, cX11_go, 3, (some .int), 1)]
def pMs_9 : List pMe := [(11, yX11_hasWays, cX11_hasWays, 1, (some .boolean), 0), (2, yX2_hourGoesBy, cX2_hourGoesBy, 6, none, 2), (2, yX2_meetThief, cX2_meetThief, 3, none, 1),
  (11, yX11_trade, cX11_trade, 3, (some .int), 1), (11, yX11_led, cX11_led, 4, (some .int), 2), (3, yX3_wayFrom, cX3_wayFrom, 7, (some .int), 3),
  (11, yX11_when, cX11_when, 1, (some .int), 0)]
def pMs_10 : List pMe := [(11, yX11_hoursUp, cX11_hoursUp, 4, (some .int), 0), (11, yX11_span, cX11_span, 7, (some .int), 1), (11, yX11_rowFrom, cX11_rowFrom, 3, (some .int), 2),
  (11, yX11_most, cX11_most, 3, (some .int), 2), (6, yX6_leaveThoseUp, cX6_leaveThoseUp, 9, none, 3), (6, yX6_leaveAll, cX6_leaveAll, 4, none, 1),
  (8, yX8_hasBags, cX8_hasBags, 4, (some .boolean), 1), (6, yX6_isLeft, cX6_isLeft, 2, (some .boolean), 1), (6, yX6_narrow, cX6_narrow, 4, none, 3),
  (6, yX6_findBest, cX6_findBest, 7, (some .boolean), 0), (8, yX8_gainOf, cX8_gainOf, 4, (some .int), 1), (4, yX4_gain, cX4_gain, 1, (some .int), 0)]
def pMs_11 : List pMe := [(6, yX6_howManyStones, cX6_howManyStones, 3, (some .int), 2), (6, yX6_mostStones, cX6_mostStones, 3, (some .int), 2), (13, yJ9_floorDiv_7cf53, cJ9_floorDiv_7cf53, 3, (some .int), 2),
  (6, yX6_fewestStones, cX6_fewestStones, 3, (some .int), 2), (11, yX11_ballast, cX11_ballast, 2, (some .int), 1), (0, yX0_plan, cX0_plan, 11, (some .int), 4),
  (0, yX0_mostBehind, cX0_mostBehind, 3, (some .int), 3), (0, yX0_choose, cX0_choose, 10, (some .int), 5), (0, yX0_costOf, cX0_costOf, 4, (some .int), 3),
  (0, yX0_follow, cX0_follow, 7, (some .int), 3), (11, yX11_behind, cX11_behind, 3, (some .int), 2), (11, yX11_ropes, cX11_ropes, 7, (some .int), 1)]
def pMs_12 : List pMe := [(11, yX11_meet, cX11_meet, 5, (some .int), 3), (11, yX11_meetingBend, cX11_meetingBend, 5, (some .int), 2), (11, yX11_waits, cX11_waits, 5, (some .int), 2),
  (11, yX11_worth, cX11_worth, 6, (some .int), 2), (11, yX11_toll, cX11_toll, 3, (some .int), 1), (6, yX6_priceForNone, cX6_priceForNone, 4, (some .int), 0),
  (6, yX6_canBeCarried, cX6_canBeCarried, 3, (some .boolean), 1), (11, yX11_lands, cX11_lands, 4, (some .int), 1), (8, yX8_windAt, cX8_windAt, 5, (some .int), 1),
  (11, yX11_see, cX11_see, 5, (some .int), 4), (9, yX9_add, cX9_add, 5, (some .int), 4), (11, yX11_strike, cX11_strike, 2, (some .int), 1)]
def pMs_13 : List pMe := [(9, yX9_addStrike, cX9_addStrike, 2, (some .int), 1), (11, yX11_known, cX11_known, 2, (some .boolean), 1), (11, yX11_fits, cX11_fits, 1, (some .int), 0),
  (6, yX6_leaveThoseThatFit, cX6_leaveThoseThatFit, 7, none, 3), (9, yX9_findStruck, cX9_findStruck, 2, none, 0), (9, yX9_knownBy, cX9_knownBy, 1, (some .int), 0),
  (9, yX9_isStrike, cX9_isStrike, 2, (some .boolean), 1), (6, yX6_howMany, cX6_howMany, 5, (some .int), 1), (11, yX11_fit, cX11_fit, 3, (some .int), 2),
  (6, yX6_findNumbered, cX6_findNumbered, 6, (some .boolean), 1), (11, yX11_sure, cX11_sure, 4, (some .int), 1), (11, yX11_chance, cX11_chance, 7, (some .int), 1)]
def pMs_14 : List pMe := [(2, yX2_becomes, cX2_becomes, 2, none, 1), (11, yX11_tried, cX11_tried, 4, (some .int), 3), (11, yX11_isTrial, cX11_isTrial, 3, (some .boolean), 2),
  (11, yX11_undo, cX11_undo, 2, (some .int), 0), (11, yX11_keep, cX11_keep, 1, (some .int), 0), (11, yX11_back, cX11_back, 1, (some .int), 0),
  (11, yX11_count, cX11_count, 2, (some .int), 1), (2, yX2_stonesAtDepots, cX2_stonesAtDepots, 3, (some .int), 0)]
def pMs_15 : List pMe := [(11, yX11_look, cX11_look, 4, (some .int), 2), (12, yX12_init, cX12_init, 1, none, 0), (12, yX12_begins, cX12_begins, 2, none, 0)]
def pMs_16 : List pMe := [(12, yX12_thrown, cX12_thrown, 1, (some .int), 0), (12, yX12_feed, cX12_feed, 8, (some .int), 5), (12, yX12_text, cX12_text, 3, (some .int), 1),
  (12, yX12_reads, cX12_reads, 3, none, 2), (12, yX12_token, cX12_token, 2, none, 0), (12, yX12_here, cX12_here, 1, (some .int), 0),
  (12, yX12_isSmall, cX12_isSmall, 1, (some .boolean), 1), (12, yX12_word, cX12_word, 4, (some .int), 0), (12, yX12_name, cX12_name, 2, none, 0),
  (12, yX12_isDigit, cX12_isDigit, 1, (some .boolean), 1), (12, yX12_sign, cX12_sign, 2, none, 1), (12, yX12_line, cX12_line, 6, none, 0)]
def pMs_17 : List pMe := [(12, yX12_wrong, cX12_wrong, 2, none, 1), (12, yX12_isFull, cX12_isFull, 2, (some .boolean), 1), (12, yX12_fresher, cX12_fresher, 2, (some .int), 1),
  (12, yX12_bendLine, cX12_bendLine, 4, none, 1), (12, yX12_fresh, cX12_fresh, 5, (some .int), 3), (12, yX12_found, cX12_found, 5, (some .int), 4),
  (12, yX12_numeral, cX12_numeral, 4, (some .int), 2), (12, yX12_isWord, cX12_isWord, 2, (some .boolean), 1), (12, yX12_isSign, cX12_isSign, 2, (some .boolean), 1),
  (12, yX12_bendAtHand, cX12_bendAtHand, 3, (some .int), 1), (12, yX12_goOn, cX12_goOn, 1, none, 0), (12, yX12_warmLine, cX12_warmLine, 3, none, 0)]
def pMs_18 : List pMe := [(12, yX12_lawLine, cX12_lawLine, 2, none, 0), (12, yX12_expression, cX12_expression, 1, none, 0), (12, yX12_conjunction, cX12_conjunction, 1, none, 0),
  (12, yX12_negation, cX12_negation, 2, none, 0), (12, yX12_knot, cX12_knot, 1, none, 0), (12, yX12_puts, cX12_puts, 3, none, 2),
  (12, yX12_sum, cX12_sum, 2, none, 0), (12, yX12_product, cX12_product, 2, none, 0), (12, yX12_primary, cX12_primary, 2, none, 0),
  (12, yX12_half, cX12_half, 3, none, 1), (12, yX12_fault, cX12_fault, 2, (some .int), 1), (12, yX12_named, cX12_named, 3, (some .int), 2)]
def pMs_19 : List pMe := [(12, yX12_look, cX12_look, 3, (some .int), 2)]
def pMs_20 : List pMe := [(12, yX12_isBend, cX12_isBend, 2, (some .boolean), 1), (12, yX12_slopeTo, cX12_slopeTo, 2, (some .int), 1), (12, yX12_goods, cX12_goods, 3, (some .int), 2),
  (12, yX12_isGoods, cX12_isGoods, 2, (some .boolean), 1), (12, yX12_bag, cX12_bag, 3, (some .int), 2), (12, yX12_isSort, cX12_isSort, 2, (some .boolean), 1),
  (12, yX12_lift, cX12_lift, 4, (some .int), 3), (12, yX12_isHour, cX12_isHour, 1, (some .boolean), 1), (12, yX12_liftOf, cX12_liftOf, 4, (some .int), 3),
  (12, yX12_calls, cX12_calls, 4, none, 3), (12, yX12_within, cX12_within, 4, (some .int), 3), (12, yX12_hasLaw, cX12_hasLaw, 2, (some .boolean), 1)]
def pMs_21 : List pMe := [(12, yX12_goes, cX12_goes, 3, (some .boolean), 1), (12, yX12_works, cX12_works, 8, (some .boolean), 1), (12, yX12_is, cX12_is, 1, (some .long), 1),
  (13, yJ9_abs_067f4, cJ9_abs_067f4, 2, (some .long), 1), (12, yX12_pull, cX12_pull, 3, (some .int), 2), (12, yX12_pullOf, cX12_pullOf, 3, (some .int), 2),
  (12, yX12_strong, cX12_strong, 1, (some .int), 0), (12, yX12_net, cX12_net, 3, (some .int), 2), (12, yX12_layLaws, cX12_layLaws, 4, none, 0),
  (12, yX12_netOf, cX12_netOf, 8, (some .int), 5), (12, yX12_law, cX12_law, 5, (some .long), 4), (12, yX12_load, cX12_load, 3, (some .boolean), 2)]
def pMs_22 : List pMe := [(12, yX12_isBelow, cX12_isBelow, 1, (some .boolean), 0), (12, yX12_keepNow, cX12_keepNow, 2, none, 0), (12, yX12_copies, cX12_copies, 4, none, 2),
  (12, yX12_tie, cX12_tie, 3, (some .boolean), 2), (12, yX12_stones, cX12_stones, 2, (some .boolean), 1), (12, yX12_at, cX12_at, 2, (some .boolean), 1),
  (12, yX12_go, cX12_go, 3, (some .int), 1), (12, yX12_passes, cX12_passes, 4, none, 1), (12, yX12_netAt, cX12_netAt, 4, (some .int), 3),
  (12, yX12_draw, cX12_draw, 2, (some .int), 1), (12, yX12_cuts, cX12_cuts, 3, none, 1), (12, yX12_trade, cX12_trade, 3, (some .int), 1)]
def pMs_23 : List pMe := [(12, yX12_led, cX12_led, 4, (some .int), 2), (12, yX12_isFrom, cX12_isFrom, 2, (some .boolean), 1), (12, yX12_wayNow, cX12_wayNow, 2, (some .int), 1),
  (12, yX12_way, cX12_way, 9, (some .int), 5), (12, yX12_when, cX12_when, 1, (some .int), 0), (12, yX12_whenUp, cX12_whenUp, 3, (some .int), 0),
  (12, yX12_span, cX12_span, 7, (some .int), 1), (12, yX12_most, cX12_most, 3, (some .int), 2), (12, yX12_layMost, cX12_layMost, 7, none, 1),
  (12, yX12_gainOf, cX12_gainOf, 4, (some .int), 1), (12, yX12_poundsOf, cX12_poundsOf, 4, (some .int), 1), (12, yX12_areBags, cX12_areBags, 3, (some .boolean), 1)]
def pMs_24 : List pMe := [(12, yX12_toll, cX12_toll, 2, (some .int), 1), (12, yX12_ballast, cX12_ballast, 2, (some .int), 1), (12, yX12_layBallast, cX12_layBallast, 6, none, 1),
  (12, yX12_changesBy, cX12_changesBy, 5, (some .int), 4), (12, yX12_comesOn, cX12_comesOn, 5, (some .boolean), 3), (12, yX12_isHeld, cX12_isHeld, 4, (some .boolean), 3),
  (12, yX12_behind, cX12_behind, 6, (some .int), 2), (12, yX12_ropes, cX12_ropes, 4, (some .int), 1), (12, yX12_meet, cX12_meet, 5, (some .int), 3),
  (12, yX12_isMeet, cX12_isMeet, 3, (some .boolean), 2)]
def pMs_25 : List pMe := [(12, yX12_meetOf, cX12_meetOf, 7, (some .int), 2), (12, yX12_waits, cX12_waits, 5, (some .int), 2), (12, yX12_worth, cX12_worth, 4, (some .int), 2),
  (12, yX12_lands, cX12_lands, 6, (some .int), 1), (12, yX12_see, cX12_see, 5, (some .int), 4), (12, yX12_strike, cX12_strike, 2, (some .int), 1),
  (12, yX12_known, cX12_known, 2, (some .boolean), 1), (12, yX12_fits, cX12_fits, 1, (some .int), 0), (12, yX12_layFits, cX12_layFits, 5, none, 1),
  (12, yX12_knownMany, cX12_knownMany, 1, (some .int), 0), (12, yX12_fitsBy, cX12_fitsBy, 6, (some .boolean), 3), (12, yX12_oneFits, cX12_oneFits, 4, none, 3)]
def pMs_26 : List pMe := [(12, yX12_fit, cX12_fit, 3, (some .int), 2), (12, yX12_sure, cX12_sure, 2, (some .int), 1), (12, yX12_chance, cX12_chance, 6, (some .int), 1),
  (12, yX12_tried, cX12_tried, 7, (some .int), 3), (12, yX12_undo, cX12_undo, 1, (some .int), 0), (12, yX12_keep, cX12_keep, 1, (some .int), 0),
  (12, yX12_back, cX12_back, 1, (some .int), 0), (12, yX12_count, cX12_count, 4, (some .int), 1)]
def pMs : List pMe := pMs_0 ++ (pMs_1 ++ (pMs_2 ++ (pMs_3 ++ (pMs_4 ++ (pMs_5 ++ (pMs_6 ++ (pMs_7 ++ (pMs_8 ++ (pMs_9 ++ (pMs_10 ++ (pMs_11 ++ (pMs_12 ++ (pMs_13 ++ (pMs_14 ++ (pMs_15 ++ (pMs_16 ++ (pMs_17 ++ (pMs_18 ++ (pMs_19 ++ (pMs_20 ++ (pMs_21 ++ (pMs_22 ++ (pMs_23 ++ (pMs_24 ++ (pMs_25 ++ (pMs_26))))))))))))))))))))))))))
def pMt (K : Nat) : pMe := pMs.getD K (0, yX0_init, cX0_init, 1, none, 0)
def pMy (K : Nat) : MethodName := (pMt K).2.1
def pHost : String := "UphillCarts"
def pWm (M : pMe) : Cond := .code M.2.1 M.2.2.1 M.2.2.2.1 M.2.2.2.2.1
def pWf (q : Nat × Nat × Nat) : Cond := .fieldLink (pR q.1) q.2.1 (pT (q.2.2 / 100) (q.2.2 % 100)).1 (pT (q.2.2 / 100) (q.2.2 % 100)).2.1 (pT (q.2.2 / 100) (q.2.2 % 100)).2.2.1
def pWy (n : Nat) : MethodName := if n / 1000 = 4 then objectInit else if n / 1000 = 5 then arraycopyName else pMy (n % 1000)
def pWc (q : Nat × Nat × Nat) : Cond := .methodLink (pR q.1) q.2.1 (pWy q.2.2)
def pWj (K : Nat) : Cond := .instanceMethod (pMy K)
def pWs (K : Nat) : Cond := .selects (pMy K).cls (pMy K) (pMy K)
def pWt (K : Nat) : Cond := .static (pMy K)
def pWk (q : Nat × Nat × Int32) : Cond := .constant (pR q.1) q.2.1 q.2.2
def pWl (q : Nat × Nat × Int64) : Cond := .constantLong (pR q.1) q.2.1 q.2.2
def pWn (q : Nat × Nat × Nat) : Cond := .classLink (pR q.1) q.2.1 (pR q.2.2)
def pWa (q : Nat × Nat × Nat) : Cond := .classLink (pR q.1) q.2.1 (if q.2.2 = 24 then RX1 else RX4)
def pWi (c : Nat) : Cond := .instantiable (pR c) (pN c)
def pWz (c : Nat) : Cond := .initialized (pR c)
def pWu (q : Nat × Nat) : Cond := u_lay (pR q.1) (pT q.1) q.2
def pWx (t : FieldType) : Cond := .arrayClass t
/-- fields: class, pool entry, 100 * class + field; calls: class, pool entry, 1000 * kind + method -/
def pFs_0 : List (Nat × Nat × Nat) := [(5, 9, 500), (5, 15, 501), (8, 61, 501), (8, 85, 100), (7, 140, 100), (3, 46, 101), (8, 89, 101), (11, 152, 101), (7, 161, 101), (11, 157, 102), (7, 145, 102), (3, 56, 103),
  (11, 160, 103), (7, 149, 103), (8, 105, 103), (2, 50, 104), (7, 152, 104), (2, 85, 105), (11, 166, 105), (7, 155, 105), (8, 88, 400), (7, 171, 400), (8, 98, 401), (11, 184, 401),
  (7, 174, 401), (4, 13, 402), (11, 189, 402), (7, 177, 402), (4, 7, 403), (11, 192, 403), (7, 180, 403), (8, 11, 800), (2, 46, 800), (3, 40, 800), (11, 148, 800), (7, 129, 800),
  (8, 19, 801), (11, 180, 801), (7, 164, 801), (8, 23, 802)]
def pFs_1 : List (Nat × Nat × Nat) := [(7, 186, 802), (8, 27, 803), (3, 74, 803), (11, 201, 803), (7, 189, 803), (8, 30, 804), (11, 204, 804), (7, 192, 804), (8, 33, 805), (3, 53, 805), (7, 198, 805), (8, 39, 806),
  (3, 77, 806), (11, 233, 806), (7, 217, 806), (8, 43, 807), (3, 99, 807), (11, 247, 807), (7, 221, 807), (0, 24, 808), (8, 51, 808), (2, 43, 808), (7, 71, 808), (6, 63, 808),
  (3, 117, 808), (11, 313, 808), (8, 55, 809), (6, 25, 809), (7, 84, 809), (11, 378, 809), (8, 58, 810), (6, 34, 810), (7, 90, 810), (3, 104, 810), (11, 379, 810), (8, 64, 811),
  (3, 96, 811), (11, 250, 811), (7, 201, 811), (8, 67, 812)]
def pFs_2 : List (Nat × Nat × Nat) := [(0, 47, 812), (6, 78, 812), (2, 78, 812), (3, 114, 812), (7, 204, 812), (11, 316, 812), (8, 70, 813), (7, 207, 813), (11, 319, 813), (8, 73, 814), (0, 64, 814), (2, 65, 814),
  (6, 113, 814), (7, 210, 814), (2, 34, 815), (8, 76, 815), (7, 214, 815), (8, 79, 816), (7, 249, 816), (11, 382, 816), (8, 82, 817), (7, 67, 817), (11, 124, 817)]
def pFs_3 : List (Nat × Nat × Nat) := [(10, 15, 1000), (10, 9, 1001), (10, 40, 1002), (10, 43, 1003), (7, 53, 1004), (10, 52, 1004), (7, 123, 1005), (10, 75, 1005), (7, 70, 1006), (10, 49, 1006), (7, 20, 700), (7, 9, 701),
  (7, 229, 702), (7, 232, 703), (7, 24, 704), (7, 33, 705), (7, 37, 706), (7, 40, 707), (7, 126, 708), (7, 43, 709), (11, 119, 709), (7, 46, 710), (11, 123, 710), (3, 9, 300),
  (3, 15, 301), (3, 18, 302), (3, 22, 303), (3, 25, 304), (3, 29, 305), (3, 33, 306), (3, 36, 307), (6, 9, 600), (6, 15, 601), (6, 18, 602), (6, 21, 603), (6, 31, 604),
  (6, 37, 605), (6, 131, 606), (11, 300, 606), (6, 132, 607)]
def pFs_4 : List (Nat × Nat × Nat) := [(11, 304, 607), (6, 128, 608), (11, 305, 608), (0, 11, 0), (0, 15, 1), (0, 18, 2), (0, 21, 3), (11, 310, 3), (9, 9, 900), (6, 101, 900), (9, 15, 901), (6, 104, 901),
  (9, 18, 902), (6, 107, 902), (9, 21, 903), (6, 110, 903), (9, 24, 904), (6, 97, 904), (9, 28, 905), (9, 31, 906), (11, 341, 906), (9, 35, 907), (11, 344, 907)]
def pFs_5 : List (Nat × Nat × Nat) := [(2, 9, 200), (0, 79, 200), (11, 163, 200), (2, 15, 201), (0, 53, 201), (11, 195, 201), (2, 19, 202), (0, 30, 202), (11, 207, 202), (2, 22, 203), (0, 85, 203), (11, 259, 203),
  (2, 25, 204), (11, 275, 204), (2, 28, 205), (11, 262, 205), (2, 31, 206), (11, 272, 206), (2, 39, 207), (11, 361, 207), (11, 11, 1100), (11, 108, 1101), (11, 122, 1102), (11, 15, 1103),
  (11, 34, 1104), (11, 22, 1105), (11, 26, 1106), (11, 43, 1107), (11, 47, 1108), (11, 53, 1109), (11, 60, 1110), (11, 67, 1111), (11, 74, 1112), (11, 78, 1113), (11, 81, 1114), (11, 101, 1115),
  (11, 375, 1116), (11, 84, 1117), (11, 105, 1118)]
def pFs_6 : List (Nat × Nat × Nat) := [(12, 144, 1200), (12, 9, 1201), (12, 147, 1202), (12, 15, 1203), (12, 18, 1204), (12, 21, 1205), (12, 24, 1206), (12, 28, 1207), (12, 31, 1208), (12, 34, 1209), (12, 37, 1210), (12, 40, 1211),
  (12, 43, 1212), (12, 46, 1213), (12, 49, 1214), (12, 52, 1215), (12, 55, 1216), (12, 58, 1217), (12, 61, 1218), (12, 64, 1219), (12, 67, 1220), (12, 70, 1221), (12, 221, 1222), (12, 239, 1223),
  (12, 245, 1224), (12, 257, 1225), (12, 153, 1226), (12, 150, 1227), (12, 160, 1228), (12, 163, 1229), (12, 173, 1230), (12, 198, 1231), (12, 201, 1232), (12, 299, 1233), (12, 73, 1234), (12, 293, 1235),
  (12, 269, 1236), (12, 77, 1237), (12, 80, 1238), (12, 83, 1239)]
def pFs_7 : List (Nat × Nat × Nat) := [(12, 86, 1240), (12, 89, 1241), (12, 92, 1242), (12, 95, 1243), (12, 98, 1244), (12, 309, 1245), (12, 313, 1246), (12, 101, 1247), (12, 105, 1248), (12, 333, 1249), (12, 108, 1250), (12, 111, 1251),
  (12, 114, 1252), (12, 423, 1253), (12, 450, 1254), (12, 438, 1255), (12, 456, 1256), (12, 459, 1257), (12, 441, 1258), (12, 117, 1259), (12, 481, 1260), (12, 306, 1261), (12, 120, 1262), (12, 123, 1263),
  (12, 126, 1264), (12, 129, 1265), (12, 132, 1266), (12, 135, 1267), (12, 138, 1268), (12, 494, 1269), (12, 497, 1270), (12, 512, 1271), (12, 515, 1272), (12, 518, 1273), (12, 500, 1274), (12, 503, 1275)]
def pFs : List (Nat × Nat × Nat) := pFs_0 ++ (pFs_1 ++ (pFs_2 ++ (pFs_3 ++ (pFs_4 ++ (pFs_5 ++ (pFs_6 ++ (pFs_7)))))))
def pCs_0 : List (Nat × Nat × Nat) := [(11, 5, 4000), (11, 21, 2001), (8, 3, 4000), (5, 3, 4000), (1, 1, 4000), (4, 1, 4000), (8, 48, 5), (11, 31, 2006), (7, 3, 4000)]
def pCs_1 : List (Nat × Nat × Nat) := [(7, 17, 2007), (10, 3, 4000), (10, 31, 1008), (11, 40, 2009), (3, 3, 4000), (11, 52, 2010), (6, 3, 4000), (0, 3, 4000), (9, 3, 4000)]
def pCs_2 : List (Nat × Nat × Nat) := [(2, 3, 4000), (11, 88, 14), (11, 91, 15), (11, 95, 16), (11, 98, 17), (11, 111, 19), (11, 115, 21), (7, 28, 5), (7, 49, 22), (10, 35, 1023), (10, 46, 24), (10, 55, 1025),
  (10, 59, 26), (10, 78, 27), (10, 62, 1028), (10, 65, 29), (10, 68, 1030), (10, 72, 31), (7, 56, 32), (7, 74, 33), (7, 60, 34), (7, 78, 35), (7, 64, 24), (7, 133, 36),
  (7, 137, 37), (7, 158, 38), (7, 81, 39), (7, 87, 40), (7, 168, 41), (7, 93, 42), (7, 183, 43), (7, 96, 44), (7, 195, 45), (7, 99, 46), (7, 102, 47)]
def pCs_3 : List (Nat × Nat × Nat) := [(7, 105, 48), (7, 108, 49), (7, 111, 50), (7, 114, 51), (7, 117, 52), (7, 120, 53), (7, 224, 54), (7, 235, 55), (7, 252, 56), (7, 255, 57), (7, 258, 58), (7, 261, 59),
  (7, 243, 1060), (7, 239, 61), (7, 246, 62), (11, 127, 36), (11, 131, 41), (11, 134, 43), (11, 177, 66), (11, 198, 68), (11, 137, 70), (11, 210, 1071), (11, 213, 72), (3, 81, 73),
  (3, 59, 1074), (3, 65, 75), (8, 92, 1076), (3, 68, 77), (5, 19, 1078), (3, 89, 1079), (3, 93, 1080), (11, 217, 82), (11, 224, 84), (2, 61, 85), (11, 228, 86), (3, 107, 72),
  (11, 237, 54), (11, 243, 73), (11, 253, 89), (11, 256, 90)]
def pCs_4 : List (Nat × Nat × Nat) := [(11, 369, 5000), (11, 265, 95), (11, 268, 96), (2, 68, 84), (2, 72, 86), (2, 81, 82), (2, 88, 97), (11, 278, 1023), (11, 283, 100), (3, 111, 86), (3, 120, 82)]
def pCs_5 : List (Nat × Nat × Nat) := [(11, 286, 102), (11, 290, 1104), (11, 293, 106), (6, 59, 107), (6, 40, 85), (6, 44, 108), (6, 66, 82), (6, 71, 109), (6, 74, 86), (6, 81, 110), (6, 50, 1076), (6, 56, 1023),
  (11, 297, 111), (6, 119, 112), (8, 101, 113), (6, 122, 114), (6, 138, 115), (6, 116, 1116), (6, 125, 117), (11, 301, 112), (11, 306, 119), (0, 35, 86), (0, 41, 1076), (0, 50, 82),
  (0, 56, 85), (0, 60, 1120), (0, 82, 1023), (0, 67, 121), (0, 72, 122), (0, 75, 123), (11, 322, 127), (11, 325, 113), (11, 328, 131), (6, 135, 132), (11, 331, 134), (11, 334, 136),
  (11, 338, 138), (11, 347, 141), (6, 85, 142), (9, 44, 143)]
def pCs_6 : List (Nat × Nat × Nat) := [(9, 38, 1023), (6, 90, 143), (6, 94, 144), (11, 351, 145), (11, 354, 147), (11, 357, 150), (2, 55, 5000), (11, 365, 152), (11, 385, 143), (11, 388, 157)]
def pCs_7 : List (Nat × Nat × Nat) := [(11, 169, 75), (12, 3, 4000), (12, 141, 160)]
def pCs_8 : List (Nat × Nat × Nat) := [(12, 235, 164), (12, 204, 165), (12, 156, 166), (12, 166, 1167), (12, 170, 168), (12, 176, 169), (12, 179, 1170), (12, 183, 171), (12, 296, 172), (12, 207, 173), (12, 218, 174), (12, 214, 175),
  (12, 224, 176), (12, 227, 177), (12, 210, 1178), (12, 231, 179), (12, 260, 180), (12, 254, 181), (12, 242, 182), (12, 263, 183), (12, 248, 184), (12, 251, 185), (12, 266, 186), (12, 272, 187),
  (12, 281, 188), (12, 275, 189), (12, 278, 190), (12, 284, 191), (12, 287, 192), (12, 290, 193), (12, 302, 1194), (12, 321, 198)]
def pCs_9 : List (Nat × Nat × Nat) := [(12, 324, 199), (12, 316, 1076), (12, 327, 201), (12, 330, 203), (12, 384, 1205), (12, 378, 206), (12, 367, 207), (12, 365, 1074), (12, 371, 208), (12, 351, 209), (12, 354, 210), (12, 348, 211),
  (12, 336, 1212), (12, 340, 1213), (12, 357, 1079), (12, 361, 1080), (12, 381, 215), (12, 375, 216), (12, 388, 218), (12, 391, 219), (12, 402, 222), (12, 406, 223), (12, 399, 224), (12, 420, 229),
  (12, 411, 230), (12, 414, 231), (12, 417, 232), (12, 429, 235), (12, 432, 236), (12, 426, 237), (12, 435, 239), (12, 462, 242), (12, 444, 243), (12, 447, 244), (12, 453, 245), (12, 478, 248),
  (12, 472, 249), (12, 469, 250), (12, 465, 251), (12, 476, 1023)]
def pCs_10 : List (Nat × Nat × Nat) := [(12, 484, 255)]
def pCs_11 : List (Nat × Nat × Nat) := [(12, 488, 256), (12, 521, 264), (12, 491, 265), (12, 506, 266), (12, 509, 267)]
def pCs : List (Nat × Nat × Nat) := pCs_0 ++ (pCs_1 ++ (pCs_2 ++ (pCs_3 ++ (pCs_4 ++ (pCs_5 ++ (pCs_6 ++ (pCs_7 ++ (pCs_8 ++ (pCs_9 ++ (pCs_10 ++ (pCs_11)))))))))))
def pC3 : List (Nat × Nat × Nat) := [(8, 38, 3002), (8, 46, 3003), (8, 47, 3004), (11, 59, 3011), (11, 66, 3012), (11, 73, 3013)]
def pC6 : List (Nat × Nat × Nat) := [(10, 21, 6000), (10, 27, 7000), (12, 189, 6000), (12, 194, 7000)]
def pJs_0 : List Nat := [1, 2, 3, 4, 5, 6]
def pJs_1 : List Nat := [7, 9, 10, 11, 12]
def pJs_2 : List Nat := [13, 14, 15, 16, 17, 19, 21, 22, 24, 26, 27, 29, 31, 32, 33, 34, 35, 36, 37, 38, 39, 40, 41, 42, 43, 44, 45, 46, 47]
def pJs_3 : List Nat := [48, 49, 50, 51, 52, 53, 54, 55, 56, 57, 58, 59, 61, 62, 66, 68, 70, 72, 73, 75, 77, 82, 84, 85, 86, 89, 90, 95, 96, 97,
  100]
def pJs_4 : List Nat := [102, 106, 107, 108, 109, 110, 111, 112, 113, 114, 115, 117, 119, 121, 122, 123, 127, 131, 132, 134, 136, 138, 141, 142, 143, 144, 145, 147, 150, 152,
  157]
def pJs_5 : List Nat := [160]
def pJs_6 : List Nat := [164, 165, 166, 168, 169, 171, 172, 173, 174, 175, 176, 177, 179, 180, 181, 182, 183, 184, 185, 186, 187, 188, 189, 190, 191, 192, 193]
def pJs_7 : List Nat := [198, 199, 201, 203, 206, 207, 208, 209, 210, 211, 215, 216, 218, 219, 222, 223, 224, 229, 230, 231, 232, 235, 236, 237, 239, 242, 243, 244, 245, 248,
  249, 250, 251, 255]
def pJs_8 : List Nat := [256, 264, 265, 266, 267]
def pJs : List Nat := pJs_0 ++ (pJs_1 ++ (pJs_2 ++ (pJs_3 ++ (pJs_4 ++ (pJs_5 ++ (pJs_6 ++ (pJs_7 ++ (pJs_8))))))))
def pSs_0 : List Nat := [14, 19, 26, 27, 29, 31, 32, 33, 34, 35, 37, 38, 39, 40, 42, 44, 45, 46, 47, 48, 49, 50, 51, 52, 53, 55, 57, 58, 59, 61,
  62, 66, 68, 70, 89, 90, 95, 97, 102, 107]
def pSs_1 : List Nat := [109, 110, 114, 115, 117, 121, 122, 123, 127, 132, 152, 160, 164, 165, 166, 168, 169, 171, 172, 173, 174, 175, 176, 177, 179, 180, 181, 182, 183, 184,
  185, 186, 187, 188, 189, 190, 191, 192, 193, 198]
def pSs_2 : List Nat := [199, 201, 203, 206, 207, 208, 209, 210, 211, 215, 216, 218, 219, 222, 223, 224, 229, 230, 231, 232, 235, 236, 237, 239, 242, 243, 244, 245, 248, 249,
  250, 251, 255, 256, 264, 265, 266, 267]
def pSs_3 : List Nat := [5]
def pSs_4 : List Nat := [15, 16, 17, 21, 22, 24, 36, 41, 43]
def pSs_5 : List Nat := [54, 56, 72, 73, 75, 77, 82, 84, 85, 86, 96, 100]
def pSs_6 : List Nat := [106, 108, 111, 112, 113, 119, 131, 134, 136, 138, 141, 142, 143, 144, 145, 147, 150, 157]
def pSs : List Nat := pSs_0 ++ (pSs_1 ++ (pSs_2 ++ (pSs_3 ++ (pSs_4 ++ (pSs_5 ++ (pSs_6))))))
def pTt_0 : List Nat := [8]
def pTt_1 : List Nat := [23, 25, 28, 30]
def pTt_2 : List Nat := [60, 71, 74, 76, 78, 79, 80]
def pTt_3 : List Nat := [104, 116, 120]
def pTt_4 : List Nat := [167, 170, 178, 194]
def pTt_5 : List Nat := [205, 212, 213]
def pTt : List Nat := pTt_0 ++ (pTt_1 ++ (pTt_2 ++ (pTt_3 ++ (pTt_4 ++ (pTt_5)))))
def pKs_0 : List (Nat × Nat × Int32) := [(10, 82, 1000000)]
def pKs_1 : List (Nat × Nat × Int32) := [(7, 213, 99999), (11, 223, (-2147483648))]
def pKs_2 : List (Nat × Nat × Int32) := [(6, 48, (-1000000)), (6, 49, 1000000), (0, 71, 1000000)]
def pKs_3 : List (Nat × Nat × Int32) := [(12, 182, 99999)]
def pKs_4 : List (Nat × Nat × Int32) := [(12, 387, (-2147483648)), (12, 409, 1103515245), (12, 410, 2147483647)]
def pKs : List (Nat × Nat × Int32) := pKs_0 ++ (pKs_1 ++ (pKs_2 ++ (pKs_3 ++ (pKs_4))))
def pK2_0 : List (Nat × Nat × Int64) := [(3, 51, 9), (5, 23, 1000000000000), (5, 27, (-9223372036854775808)), (5, 25, (-1000000000000)), (3, 85, (-9223372036854775808)), (3, 87, 99), (3, 102, 999), (11, 231, (-9223372036854775808)),
  (2, 92, 1103515245), (2, 94, 12345), (2, 96, 2147483647), (2, 98, 65536), (2, 100, 100)]
def pK2_1 : List (Nat × Nat × Int64) := [(12, 363, 9), (12, 344, 1000000000000), (12, 346, (-1000000000000)), (12, 397, (-9223372036854775808))]
def pK2 : List (Nat × Nat × Int64) := pK2_0 ++ (pK2_1)
def pNs_0 : List (Nat × Nat × Nat) := [(11, 19, 8), (8, 9, 1), (8, 17, 4), (8, 36, 5), (11, 29, 7), (7, 15, 10)]
def pNs_1 : List (Nat × Nat × Nat) := [(11, 38, 3), (11, 50, 6), (11, 57, 0), (11, 64, 9)]
def pNs_2 : List (Nat × Nat × Nat) := [(11, 71, 2)]
def pNs : List (Nat × Nat × Nat) := pNs_0 ++ (pNs_1 ++ (pNs_2))
def pAn_0 : List (Nat × Nat × Nat) := [(8, 9, 24), (8, 17, 25)]
def pAn : List (Nat × Nat × Nat) := pAn_0
def pIz_0 : List Nat := [11, 8, 5, 1, 4, 7, 10]
def pIz_1 : List Nat := [3, 6, 0, 9]
def pIz_2 : List Nat := [2]
def pIz_3 : List Nat := [12]
def pIz : List Nat := pIz_0 ++ (pIz_1 ++ (pIz_2 ++ (pIz_3)))
def pZz_0 : List Nat := [11, 8, 5, 1, 4, 7, 10, 3, 6, 0, 9, 2, 12, 13]
def pZz : List Nat := pZz_0
def pUu_0 : List (Nat × Nat) := [(5, 0), (5, 1), (1, 0), (1, 1), (1, 2), (1, 3), (1, 4), (1, 5), (4, 0), (4, 1), (4, 2), (4, 3), (8, 0), (8, 1), (8, 2), (8, 3),
  (8, 4), (8, 5), (8, 6), (8, 7), (8, 8), (8, 9), (8, 10), (8, 11), (8, 12), (8, 13), (8, 14), (8, 15), (8, 16), (8, 17)]
def pUu_1 : List (Nat × Nat) := [(10, 0), (10, 1), (10, 2), (10, 3), (10, 4), (10, 5), (10, 6), (7, 0), (7, 1), (7, 2), (7, 3), (7, 4), (7, 5), (7, 6), (7, 7), (7, 8),
  (7, 9), (7, 10), (3, 0), (3, 1), (3, 2), (3, 3), (3, 4), (3, 5), (3, 6), (3, 7), (6, 0), (6, 1), (6, 2), (6, 3), (6, 4), (6, 5),
  (6, 6), (6, 7), (6, 8), (0, 0), (0, 1), (0, 2), (0, 3), (9, 0)]
def pUu_2 : List (Nat × Nat) := [(9, 1), (9, 2), (9, 3), (9, 4), (9, 5), (9, 6)]
def pUu_3 : List (Nat × Nat) := [(9, 7), (2, 0), (2, 1), (2, 2), (2, 3), (2, 4), (2, 5), (2, 6), (2, 7), (11, 0), (11, 1), (11, 2), (11, 3), (11, 4), (11, 5), (11, 6),
  (11, 7), (11, 8), (11, 9), (11, 10), (11, 11), (11, 12), (11, 13), (11, 14), (11, 15), (11, 16), (11, 17), (11, 18)]
def pUu_4 : List (Nat × Nat) := [(12, 0), (12, 1), (12, 2), (12, 3), (12, 4), (12, 5), (12, 6), (12, 7), (12, 8), (12, 9), (12, 10), (12, 11), (12, 12), (12, 13), (12, 14), (12, 15),
  (12, 16), (12, 17), (12, 18), (12, 19), (12, 20), (12, 21), (12, 22), (12, 23), (12, 24), (12, 25), (12, 26), (12, 27), (12, 28), (12, 29), (12, 30)]
def pUu_5 : List (Nat × Nat) := [(12, 31), (12, 32), (12, 33), (12, 34), (12, 35), (12, 36), (12, 37), (12, 38), (12, 39), (12, 40), (12, 41), (12, 42), (12, 43), (12, 44), (12, 45), (12, 46),
  (12, 47), (12, 48), (12, 49), (12, 50), (12, 51), (12, 52), (12, 53), (12, 54), (12, 55), (12, 56), (12, 57), (12, 58), (12, 59), (12, 60), (12, 61), (12, 62),
  (12, 63), (12, 64), (12, 65), (12, 66), (12, 67), (12, 68), (12, 69), (12, 70)]
def pUu_6 : List (Nat × Nat) := [(12, 71), (12, 72), (12, 73), (12, 74), (12, 75)]
def pUu : List (Nat × Nat) := pUu_0 ++ (pUu_1 ++ (pUu_2 ++ (pUu_3 ++ (pUu_4 ++ (pUu_5 ++ (pUu_6))))))
def pXx_0 : List FieldType := [.byte, .int]
def pXx_1 : List FieldType := [.long]
def pXx_2 : List FieldType := [.boolean]
def pXx : List FieldType := pXx_0 ++ (pXx_1 ++ (pXx_2))
end
section
set_option maxRecDepth 100000 in
theorem pIn_f_0 : GoodIn tables_1_1 (pFs_0.map pWf) := goodIn_r _ [49, 50, 51, 64, 65, 66, 67, 68, 69, 70, 71, 72, 73, 74, 75, 76, 77, 78, 79, 80, 99, 100, 101, 102, 103, 104, 105, 106, 107, 108, 109, 123, 124, 125, 126, 127, 128, 129, 130, 131] (by decide +kernel) (by decide +kernel)
set_option maxRecDepth 100000 in
theorem pIn_f_1 : GoodIn tables_1_1 (pFs_1.map pWf) := goodIn_r _ [132, 133, 134, 135, 136, 137, 138, 139, 140, 141, 142, 143, 144, 145, 146, 147, 148, 149, 150, 151, 152, 153, 154, 155, 156, 157, 158, 159, 160, 161, 162, 163, 164, 165, 166, 167, 168, 169, 170, 171] (by decide +kernel) (by decide +kernel)
set_option maxRecDepth 100000 in
theorem pIn_f_2 : GoodIn tables_1_1 (pFs_2.map pWf) := goodIn_r _ [172, 173, 174, 175, 176, 177, 178, 179, 180, 181, 182, 183, 184, 185, 186, 187, 188, 189, 190, 191, 192, 193, 194] (by decide +kernel) (by decide +kernel)
set_option maxRecDepth 100000 in
theorem pIn_f_3 : GoodIn tables_1_2 (pFs_3.map pWf) := goodIn_r _ [56, 57, 58, 59, 60, 61, 62, 63, 64, 65, 81, 82, 83, 84, 85, 86, 87, 88, 89, 90, 91, 92, 93, 123, 124, 125, 126, 127, 128, 129, 130, 155, 156, 157, 158, 159, 160, 161, 162, 163] (by decide +kernel) (by decide +kernel)
set_option maxRecDepth 100000 in
theorem pIn_f_4 : GoodIn tables_1_2 (pFs_4.map pWf) := goodIn_r _ [164, 165, 166, 192, 193, 194, 195, 196, 212, 213, 214, 215, 216, 217, 218, 219, 220, 221, 222, 223, 224, 225, 226] (by decide +kernel) (by decide +kernel)
set_option maxRecDepth 100000 in
theorem pIn_f_5 : GoodIn tables_1_3 (pFs_5.map pWf) := goodIn_r _ [11, 12, 13, 14, 15, 16, 17, 18, 19, 20, 21, 22, 23, 24, 25, 26, 27, 28, 29, 30, 64, 65, 66, 67, 68, 69, 70, 71, 72, 73, 74, 75, 76, 77, 78, 79, 80, 81, 82] (by decide +kernel) (by decide +kernel)
set_option maxRecDepth 100000 in
theorem pIn_f_6 : GoodIn tables_1_6 (pFs_6.map pWf) := goodIn_r _ [102, 103, 104, 105, 106, 107, 108, 109, 110, 111, 112, 113, 114, 115, 116, 117, 118, 119, 120, 121, 122, 123, 124, 125, 126, 127, 128, 129, 130, 131, 132, 133, 134, 135, 136, 137, 138, 139, 140, 141] (by decide +kernel) (by decide +kernel)
set_option maxRecDepth 100000 in
theorem pIn_f_7 : GoodIn tables_1_6 (pFs_7.map pWf) := goodIn_r _ [142, 143, 144, 145, 146, 147, 148, 149, 150, 151, 152, 153, 154, 155, 156, 157, 158, 159, 160, 161, 162, 163, 164, 165, 166, 167, 168, 169, 170, 171, 172, 173, 174, 175, 176, 177] (by decide +kernel) (by decide +kernel)
theorem pIn_f : GoodIn lw_tbl (pFs.map pWf) := goodIn_ma (goodIn_up pt_1 pIn_f_0) (goodIn_ma (goodIn_up pt_1 pIn_f_1) (goodIn_ma (goodIn_up pt_1 pIn_f_2) (goodIn_ma (goodIn_up pt_2 pIn_f_3) (goodIn_ma (goodIn_up pt_2 pIn_f_4) (goodIn_ma (goodIn_up pt_3 pIn_f_5) (goodIn_ma (goodIn_up pt_6 pIn_f_6) (goodIn_up pt_6 pIn_f_7)))))))
set_option maxRecDepth 100000 in
theorem pIn_c_0 : GoodIn tables_1_1 (pCs_0.map pWc) := goodIn_r _ [30, 35, 38, 48, 63, 98, 119, 234, 237] (by decide +kernel) (by decide +kernel)
set_option maxRecDepth 100000 in
theorem pIn_c_1 : GoodIn tables_1_2 (pCs_1.map pWc) := goodIn_r _ [0, 3, 53, 119, 122, 151, 154, 191, 211] (by decide +kernel) (by decide +kernel)
set_option maxRecDepth 100000 in
theorem pIn_c_2 : GoodIn tables_1_3 (pCs_2.map pWc) := goodIn_r _ [10, 48, 52, 56, 60, 126, 134, 138, 139, 143, 146, 150, 153, 157, 161, 164, 169, 172, 176, 180, 184, 188, 192, 193, 197, 201, 205, 209, 213, 217, 221, 225, 229, 233, 237] (by decide +kernel) (by decide +kernel)
set_option maxRecDepth 100000 in
theorem pIn_c_3 : GoodIn tables_1_4 (pCs_3.map pWc) := goodIn_r _ [1, 5, 9, 13, 17, 22, 26, 30, 34, 38, 42, 46, 50, 53, 57, 69, 70, 71, 76, 84, 92, 96, 99, 103, 108, 111, 115, 118, 122, 130, 133, 140, 150, 154, 158, 162, 168, 169, 174, 178] (by decide +kernel) (by decide +kernel)
set_option maxRecDepth 100000 in
theorem pIn_c_4 : GoodIn tables_1_4 (pCs_4.map pWc) := goodIn_r _ [182, 201, 205, 209, 210, 211, 212, 225, 230, 234, 235] (by decide +kernel) (by decide +kernel)
set_option maxRecDepth 100000 in
theorem pIn_c_5 : GoodIn tables_1_5 (pCs_5.map pWc) := goodIn_r _ [0, 8, 15, 19, 23, 24, 30, 31, 35, 36, 40, 41, 42, 46, 50, 54, 58, 62, 65, 69, 74, 78, 79, 80, 81, 82, 85, 86, 91, 95, 111, 123, 128, 132, 140, 148, 156, 168, 172, 176] (by decide +kernel) (by decide +kernel)
set_option maxRecDepth 100000 in
theorem pIn_c_6 : GoodIn tables_1_5 (pCs_6.map pWc) := goodIn_r _ [180, 181, 182, 186, 194, 206, 210, 215, 235, 236] (by decide +kernel) (by decide +kernel)
set_option maxRecDepth 100000 in
theorem pIn_c_7 : GoodIn tables_1_6 (pCs_7.map pWc) := goodIn_r _ [75, 97, 98] (by decide +kernel) (by decide +kernel)
set_option maxRecDepth 100000 in
theorem pIn_c_8 : GoodIn tables_1_7 (pCs_8.map pWc) := goodIn_r _ [103, 107, 111, 115, 118, 125, 129, 133, 137, 141, 145, 149, 153, 157, 161, 164, 168, 172, 176, 180, 184, 188, 192, 196, 200, 204, 208, 212, 216, 220, 224, 239] (by decide +kernel) (by decide +kernel)
set_option maxRecDepth 100000 in
theorem pIn_c_9 : GoodIn tables_1_8 (pCs_9.map pWc) := goodIn_r _ [3, 7, 12, 20, 28, 31, 35, 40, 41, 45, 49, 53, 57, 60, 65, 66, 71, 75, 84, 88, 101, 105, 109, 129, 133, 137, 143, 155, 159, 163, 171, 183, 187, 191, 195, 207, 211, 215, 219, 223] (by decide +kernel) (by decide +kernel)
set_option maxRecDepth 100000 in
theorem pIn_c_10 : GoodIn tables_1_8 (pCs_10.map pWc) := goodIn_r _ [236] (by decide +kernel) (by decide +kernel)
set_option maxRecDepth 100000 in
theorem pIn_c_11 : GoodIn tables_1_9 (pCs_11.map pWc) := goodIn_r _ [0, 32, 36, 40, 44] (by decide +kernel) (by decide +kernel)
theorem pIn_c : GoodIn lw_tbl (pCs.map pWc) := goodIn_ma (goodIn_up pt_1 pIn_c_0) (goodIn_ma (goodIn_up pt_2 pIn_c_1) (goodIn_ma (goodIn_up pt_3 pIn_c_2) (goodIn_ma (goodIn_up pt_4 pIn_c_3) (goodIn_ma (goodIn_up pt_4 pIn_c_4) (goodIn_ma (goodIn_up pt_5 pIn_c_5) (goodIn_ma (goodIn_up pt_5 pIn_c_6) (goodIn_ma (goodIn_up pt_6 pIn_c_7) (goodIn_ma (goodIn_up pt_7 pIn_c_8) (goodIn_ma (goodIn_up pt_8 pIn_c_9) (goodIn_ma (goodIn_up pt_8 pIn_c_10) (goodIn_up pt_9 pIn_c_11)))))))))))
set_option maxRecDepth 100000 in
theorem pIn_j_0 : GoodIn tables_1_1 (pJs_0.map pWj) := goodIn_r _ [36, 46, 61, 96, 120, 235] (by decide +kernel) (by decide +kernel)
set_option maxRecDepth 100000 in
theorem pIn_j_1 : GoodIn tables_1_2 (pJs_1.map pWj) := goodIn_r _ [1, 120, 152, 189, 209] (by decide +kernel) (by decide +kernel)
set_option maxRecDepth 100000 in
theorem pIn_j_2 : GoodIn tables_1_3 (pJs_2.map pWj) := goodIn_r _ [8, 50, 53, 57, 61, 128, 135, 140, 147, 155, 159, 166, 174, 178, 182, 186, 190, 194, 199, 203, 207, 211, 214, 219, 222, 227, 231, 235, 239] (by decide +kernel) (by decide +kernel)
set_option maxRecDepth 100000 in
theorem pIn_j_3 : GoodIn tables_1_4 (pJs_3.map pWj) := goodIn_r _ [3, 7, 11, 15, 19, 24, 27, 32, 35, 40, 44, 48, 55, 59, 78, 86, 94, 100, 104, 112, 119, 141, 151, 155, 159, 176, 180, 203, 206, 214, 231] (by decide +kernel) (by decide +kernel)
set_option maxRecDepth 100000 in
theorem pIn_j_4 : GoodIn tables_1_5 (pJs_4.map pWj) := goodIn_r _ [2, 16, 21, 25, 33, 38, 43, 47, 51, 56, 60, 67, 75, 88, 93, 97, 113, 129, 134, 141, 149, 157, 169, 173, 177, 183, 187, 195, 207, 217, 237] (by decide +kernel) (by decide +kernel)
set_option maxRecDepth 100000 in
theorem pIn_j_5 : GoodIn tables_1_6 (pJs_5.map pWj) := goodIn_r _ [100] (by decide +kernel) (by decide +kernel)
set_option maxRecDepth 100000 in
theorem pIn_j_6 : GoodIn tables_1_7 (pJs_6.map pWj) := goodIn_r _ [105, 109, 113, 120, 127, 135, 139, 143, 147, 151, 155, 159, 166, 170, 174, 178, 182, 186, 190, 194, 198, 202, 206, 210, 214, 218, 222] (by decide +kernel) (by decide +kernel)
set_option maxRecDepth 100000 in
theorem pIn_j_7 : GoodIn tables_1_8 (pJs_7.map pWj) := goodIn_r _ [1, 5, 14, 22, 33, 37, 43, 47, 51, 55, 73, 77, 86, 90, 103, 107, 111, 131, 135, 139, 145, 157, 161, 165, 173, 185, 189, 193, 197, 209, 213, 217, 221, 238] (by decide +kernel) (by decide +kernel)
set_option maxRecDepth 100000 in
theorem pIn_j_8 : GoodIn tables_1_9 (pJs_8.map pWj) := goodIn_r _ [2, 34, 38, 42, 46] (by decide +kernel) (by decide +kernel)
theorem pIn_j : GoodIn lw_tbl (pJs.map pWj) := goodIn_ma (goodIn_up pt_1 pIn_j_0) (goodIn_ma (goodIn_up pt_2 pIn_j_1) (goodIn_ma (goodIn_up pt_3 pIn_j_2) (goodIn_ma (goodIn_up pt_4 pIn_j_3) (goodIn_ma (goodIn_up pt_5 pIn_j_4) (goodIn_ma (goodIn_up pt_6 pIn_j_5) (goodIn_ma (goodIn_up pt_7 pIn_j_6) (goodIn_ma (goodIn_up pt_8 pIn_j_7) (goodIn_up pt_9 pIn_j_8))))))))
set_option maxRecDepth 100000 in
theorem pIn_s_0 : GoodIn (k2_sels lw_privs) (pSs_0.map pWs) := goodIn_r _ [0, 1, 2, 3, 4, 5, 6, 7, 8, 9, 10, 11, 12, 13, 14, 15, 16, 17, 18, 19, 20, 21, 22, 23, 24, 25, 26, 27, 28, 29, 30, 31, 32, 33, 34, 35, 36, 37, 38, 39] (by decide +kernel) (by decide +kernel)
set_option maxRecDepth 100000 in
theorem pIn_s_1 : GoodIn (k2_sels lw_privs) (pSs_1.map pWs) := goodIn_r _ [40, 41, 42, 43, 44, 45, 46, 47, 48, 49, 50, 52, 53, 54, 55, 56, 57, 58, 59, 60, 61, 62, 63, 64, 65, 66, 67, 68, 69, 70, 71, 72, 73, 74, 75, 76, 77, 78, 79, 80] (by decide +kernel) (by decide +kernel)
set_option maxRecDepth 100000 in
theorem pIn_s_2 : GoodIn (k2_sels lw_privs) (pSs_2.map pWs) := goodIn_r _ [81, 82, 83, 84, 85, 86, 87, 88, 89, 90, 91, 92, 93, 94, 95, 96, 97, 98, 99, 100, 101, 102, 103, 104, 105, 106, 107, 108, 109, 110, 111, 112, 113, 114, 115, 116, 117, 118] (by decide +kernel) (by decide +kernel)
set_option maxRecDepth 100000 in
theorem pIn_s_3 : GoodIn tables_1_1 (pSs_3.map pWs) := goodIn_r _ [121] (by decide +kernel) (by decide +kernel)
set_option maxRecDepth 100000 in
theorem pIn_s_4 : GoodIn tables_1_3 (pSs_4.map pWs) := goodIn_r _ [54, 58, 62, 136, 141, 148, 195, 215, 223] (by decide +kernel) (by decide +kernel)
set_option maxRecDepth 100000 in
theorem pIn_s_5 : GoodIn tables_1_4 (pSs_5.map pWs) := goodIn_r _ [28, 36, 101, 105, 113, 120, 142, 152, 156, 160, 207, 232] (by decide +kernel) (by decide +kernel)
set_option maxRecDepth 100000 in
theorem pIn_s_6 : GoodIn tables_1_5 (pSs_6.map pWs) := goodIn_r _ [17, 26, 44, 48, 52, 76, 130, 142, 150, 158, 170, 174, 178, 184, 188, 196, 208, 238] (by decide +kernel) (by decide +kernel)
theorem pIn_s : GoodIn lw_tbl (pSs.map pWs) := goodIn_ma (goodIn_up pt_0 pIn_s_0) (goodIn_ma (goodIn_up pt_0 pIn_s_1) (goodIn_ma (goodIn_up pt_0 pIn_s_2) (goodIn_ma (goodIn_up pt_1 pIn_s_3) (goodIn_ma (goodIn_up pt_3 pIn_s_4) (goodIn_ma (goodIn_up pt_4 pIn_s_5) (goodIn_up pt_5 pIn_s_6))))))
set_option maxRecDepth 100000 in
theorem pIn_t_0 : GoodIn tables_1_2 (pTt_0.map pWt) := goodIn_r _ [54] (by decide +kernel) (by decide +kernel)
set_option maxRecDepth 100000 in
theorem pIn_t_1 : GoodIn tables_1_3 (pTt_1.map pWt) := goodIn_r _ [144, 151, 162, 170] (by decide +kernel) (by decide +kernel)
set_option maxRecDepth 100000 in
theorem pIn_t_2 : GoodIn tables_1_4 (pTt_2.map pWt) := goodIn_r _ [51, 97, 109, 116, 123, 131, 134] (by decide +kernel) (by decide +kernel)
set_option maxRecDepth 100000 in
theorem pIn_t_3 : GoodIn tables_1_5 (pTt_3.map pWt) := goodIn_r _ [9, 63, 83] (by decide +kernel) (by decide +kernel)
set_option maxRecDepth 100000 in
theorem pIn_t_4 : GoodIn tables_1_7 (pTt_4.map pWt) := goodIn_r _ [116, 130, 162, 225] (by decide +kernel) (by decide +kernel)
set_option maxRecDepth 100000 in
theorem pIn_t_5 : GoodIn tables_1_8 (pTt_5.map pWt) := goodIn_r _ [29, 58, 61] (by decide +kernel) (by decide +kernel)
theorem pIn_t : GoodIn lw_tbl (pTt.map pWt) := goodIn_ma (goodIn_up pt_2 pIn_t_0) (goodIn_ma (goodIn_up pt_3 pIn_t_1) (goodIn_ma (goodIn_up pt_4 pIn_t_2) (goodIn_ma (goodIn_up pt_5 pIn_t_3) (goodIn_ma (goodIn_up pt_7 pIn_t_4) (goodIn_up pt_8 pIn_t_5)))))
set_option maxRecDepth 100000 in
theorem pIn_k_0 : GoodIn tables_1_3 (pKs_0.map pWk) := goodIn_r _ [168] (by decide +kernel) (by decide +kernel)
set_option maxRecDepth 100000 in
theorem pIn_k_1 : GoodIn tables_1_4 (pKs_1.map pWk) := goodIn_r _ [21, 149] (by decide +kernel) (by decide +kernel)
set_option maxRecDepth 100000 in
theorem pIn_k_2 : GoodIn tables_1_5 (pKs_2.map pWk) := goodIn_r _ [28, 29, 90] (by decide +kernel) (by decide +kernel)
set_option maxRecDepth 100000 in
theorem pIn_k_3 : GoodIn tables_1_7 (pKs_3.map pWk) := goodIn_r _ [132] (by decide +kernel) (by decide +kernel)
set_option maxRecDepth 100000 in
theorem pIn_k_4 : GoodIn tables_1_8 (pKs_4.map pWk) := goodIn_r _ [83, 141, 142] (by decide +kernel) (by decide +kernel)
theorem pIn_k : GoodIn lw_tbl (pKs.map pWk) := goodIn_ma (goodIn_up pt_3 pIn_k_0) (goodIn_ma (goodIn_up pt_4 pIn_k_1) (goodIn_ma (goodIn_up pt_5 pIn_k_2) (goodIn_ma (goodIn_up pt_7 pIn_k_3) (goodIn_up pt_8 pIn_k_4))))
set_option maxRecDepth 100000 in
theorem pIn_l_0 : GoodIn tables_1_4 (pK2_0.map pWl) := goodIn_r _ [107, 125, 126, 127, 128, 129, 144, 167, 216, 217, 218, 219, 220] (by decide +kernel) (by decide +kernel)
set_option maxRecDepth 100000 in
theorem pIn_l_1 : GoodIn tables_1_8 (pK2_1.map pWl) := goodIn_r _ [39, 63, 64, 96] (by decide +kernel) (by decide +kernel)
theorem pIn_l : GoodIn lw_tbl (pK2.map pWl) := goodIn_ma (goodIn_up pt_4 pIn_l_0) (goodIn_up pt_8 pIn_l_1)
set_option maxRecDepth 100000 in
theorem pIn_n_0 : GoodIn tables_1_1 (pNs_0.map pWn) := goodIn_r _ [33, 39, 41, 43, 232, 238] (by decide +kernel) (by decide +kernel)
set_option maxRecDepth 100000 in
theorem pIn_n_1 : GoodIn tables_1_2 (pNs_1.map pWn) := goodIn_r _ [117, 149, 186, 206] (by decide +kernel) (by decide +kernel)
set_option maxRecDepth 100000 in
theorem pIn_n_2 : GoodIn tables_1_3 (pNs_2.map pWn) := goodIn_r _ [5] (by decide +kernel) (by decide +kernel)
theorem pIn_n : GoodIn lw_tbl (pNs.map pWn) := goodIn_ma (goodIn_up pt_1 pIn_n_0) (goodIn_ma (goodIn_up pt_2 pIn_n_1) (goodIn_up pt_3 pIn_n_2))
set_option maxRecDepth 100000 in
theorem pIn_a_0 : GoodIn tables_1_1 (pAn_0.map pWa) := goodIn_r _ [39, 41] (by decide +kernel) (by decide +kernel)
theorem pIn_a : GoodIn lw_tbl (pAn.map pWa) := goodIn_up pt_1 pIn_a_0
set_option maxRecDepth 100000 in
theorem pIn_i_0 : GoodIn tables_1_1 (pIz_0.map pWi) := goodIn_r _ [26, 34, 44, 59, 94, 233, 239] (by decide +kernel) (by decide +kernel)
set_option maxRecDepth 100000 in
theorem pIn_i_1 : GoodIn tables_1_2 (pIz_1.map pWi) := goodIn_r _ [118, 150, 187, 207] (by decide +kernel) (by decide +kernel)
set_option maxRecDepth 100000 in
theorem pIn_i_2 : GoodIn tables_1_3 (pIz_2.map pWi) := goodIn_r _ [6] (by decide +kernel) (by decide +kernel)
set_option maxRecDepth 100000 in
theorem pIn_i_3 : GoodIn tables_1_6 (pIz_3.map pWi) := goodIn_r _ [93] (by decide +kernel) (by decide +kernel)
theorem pIn_i : GoodIn lw_tbl (pIz.map pWi) := goodIn_ma (goodIn_up pt_1 pIn_i_0) (goodIn_ma (goodIn_up pt_2 pIn_i_1) (goodIn_ma (goodIn_up pt_3 pIn_i_2) (goodIn_up pt_6 pIn_i_3)))
set_option maxRecDepth 100000 in
theorem pIn_z_0 : GoodIn tables_1_1 (pZz_0.map pWz) := goodIn_r _ [1, 2, 3, 4, 5, 6, 7, 12, 13, 14, 15, 16, 17, 18] (by decide +kernel) (by decide +kernel)
theorem pIn_z : GoodIn lw_tbl (pZz.map pWz) := goodIn_up pt_1 pIn_z_0
set_option maxRecDepth 100000 in
theorem pIn_u_0 : GoodIn tables_1_1 (pUu_0.map pWu) := goodIn_r _ [52, 54, 81, 83, 85, 87, 89, 91, 110, 112, 114, 116, 195, 197, 199, 201, 203, 205, 207, 209, 211, 213, 215, 217, 219, 221, 223, 225, 227, 229] (by decide +kernel) (by decide +kernel)
set_option maxRecDepth 100000 in
theorem pIn_u_1 : GoodIn tables_1_2 (pUu_1.map pWu) := goodIn_r _ [66, 68, 70, 72, 74, 76, 78, 94, 96, 98, 100, 102, 104, 106, 108, 110, 112, 114, 131, 133, 135, 137, 139, 141, 143, 145, 167, 169, 171, 173, 175, 177, 179, 181, 183, 197, 199, 201, 203, 227] (by decide +kernel) (by decide +kernel)
set_option maxRecDepth 100000 in
theorem pIn_u_2 : GoodIn tables_1_2 (pUu_2.map pWu) := goodIn_r _ [229, 231, 233, 235, 237, 239] (by decide +kernel) (by decide +kernel)
set_option maxRecDepth 100000 in
theorem pIn_u_3 : GoodIn tables_1_3 (pUu_3.map pWu) := goodIn_r _ [1, 31, 33, 35, 37, 39, 41, 43, 45, 83, 85, 87, 89, 91, 93, 95, 97, 99, 101, 103, 105, 107, 109, 111, 113, 115, 117, 119] (by decide +kernel) (by decide +kernel)
set_option maxRecDepth 100000 in
theorem pIn_u_4 : GoodIn tables_1_6 (pUu_4.map pWu) := goodIn_r _ [178, 180, 182, 184, 186, 188, 190, 192, 194, 196, 198, 200, 202, 204, 206, 208, 210, 212, 214, 216, 218, 220, 222, 224, 226, 228, 230, 232, 234, 236, 238] (by decide +kernel) (by decide +kernel)
set_option maxRecDepth 100000 in
theorem pIn_u_5 : GoodIn tables_1_7 (pUu_5.map pWu) := goodIn_r _ [0, 2, 4, 6, 8, 10, 12, 14, 16, 18, 20, 22, 24, 26, 28, 30, 32, 34, 36, 38, 40, 42, 44, 46, 48, 50, 52, 54, 56, 58, 60, 62, 64, 66, 68, 70, 72, 74, 76, 78] (by decide +kernel) (by decide +kernel)
set_option maxRecDepth 100000 in
theorem pIn_u_6 : GoodIn tables_1_7 (pUu_6.map pWu) := goodIn_r _ [80, 82, 84, 86, 88] (by decide +kernel) (by decide +kernel)
theorem pIn_u : GoodIn lw_tbl (pUu.map pWu) := goodIn_ma (goodIn_up pt_1 pIn_u_0) (goodIn_ma (goodIn_up pt_2 pIn_u_1) (goodIn_ma (goodIn_up pt_2 pIn_u_2) (goodIn_ma (goodIn_up pt_3 pIn_u_3) (goodIn_ma (goodIn_up pt_6 pIn_u_4) (goodIn_ma (goodIn_up pt_7 pIn_u_5) (goodIn_up pt_7 pIn_u_6))))))
set_option maxRecDepth 100000 in
theorem pIn_x_0 : GoodIn tables_1_1 (pXx_0.map pWx) := goodIn_r _ [57, 58] (by decide +kernel) (by decide +kernel)
set_option maxRecDepth 100000 in
theorem pIn_x_1 : GoodIn tables_1_2 (pXx_1.map pWx) := goodIn_r _ [148] (by decide +kernel) (by decide +kernel)
set_option maxRecDepth 100000 in
theorem pIn_x_2 : GoodIn tables_1_3 (pXx_2.map pWx) := goodIn_r _ [4] (by decide +kernel) (by decide +kernel)
theorem pIn_x : GoodIn lw_tbl (pXx.map pWx) := goodIn_ma (goodIn_up pt_1 pIn_x_0) (goodIn_ma (goodIn_up pt_2 pIn_x_1) (goodIn_up pt_3 pIn_x_2))
end
section
theorem gi_c {big l : List Cond} {a : Cond} (h : a ∈ big) (hg : goodWord a = true) (t : GoodIn big l) : GoodIn big (a :: l) := fun w hw => (List.mem_cons.mp hw).elim (fun e => e ▸ ⟨h, good_of_word hg⟩) (t w)
theorem gi_n {big : List Cond} : GoodIn big [] := fun _ h => nomatch h
set_option maxRecDepth 100000 in
theorem pIn_m_0 : GoodIn tables_1_1 (pMs_0.map pWm) := gi_c (List.mem_of_getElem? (i := 29) rfl) rfl (gi_c (List.mem_of_getElem? (i := 37) rfl) rfl (gi_c (List.mem_of_getElem? (i := 47) rfl) rfl (gi_c (List.mem_of_getElem? (i := 62) rfl) rfl (gi_c (List.mem_of_getElem? (i := 97) rfl) rfl (gi_c (List.mem_of_getElem? (i := 122) rfl) rfl (gi_c (List.mem_of_getElem? (i := 236) rfl) rfl (gi_n)))))))
set_option maxRecDepth 100000 in
theorem pIn_m_1 : GoodIn tables_1_2 (pMs_1.map pWm) := gi_c (List.mem_of_getElem? (i := 2) rfl) rfl (gi_c (List.mem_of_getElem? (i := 55) rfl) rfl (gi_c (List.mem_of_getElem? (i := 121) rfl) rfl (gi_c (List.mem_of_getElem? (i := 153) rfl) rfl (gi_c (List.mem_of_getElem? (i := 190) rfl) rfl (gi_c (List.mem_of_getElem? (i := 210) rfl) rfl (gi_n))))))
set_option maxRecDepth 100000 in
theorem pIn_m_2 : GoodIn tables_1_3 (pMs_2.map pWm) := gi_c (List.mem_of_getElem? (i := 9) rfl) rfl (gi_c (List.mem_of_getElem? (i := 51) rfl) rfl (gi_c (List.mem_of_getElem? (i := 55) rfl) rfl (gi_c (List.mem_of_getElem? (i := 59) rfl) rfl (gi_c (List.mem_of_getElem? (i := 63) rfl) rfl (gi_c (List.mem_of_getElem? (i := 125) rfl) rfl (gi_c (List.mem_of_getElem? (i := 129) rfl) rfl (gi_c (List.mem_of_getElem? (i := 133) rfl) rfl (gi_c (List.mem_of_getElem? (i := 137) rfl) rfl (gi_c (List.mem_of_getElem? (i := 142) rfl) rfl (gi_c (List.mem_of_getElem? (i := 145) rfl) rfl (gi_c (List.mem_of_getElem? (i := 149) rfl) rfl (gi_n))))))))))))
set_option maxRecDepth 100000 in
theorem pIn_m_3 : GoodIn tables_1_3 (pMs_3.map pWm) := gi_c (List.mem_of_getElem? (i := 152) rfl) rfl (gi_c (List.mem_of_getElem? (i := 156) rfl) rfl (gi_c (List.mem_of_getElem? (i := 160) rfl) rfl (gi_c (List.mem_of_getElem? (i := 163) rfl) rfl (gi_c (List.mem_of_getElem? (i := 167) rfl) rfl (gi_c (List.mem_of_getElem? (i := 171) rfl) rfl (gi_c (List.mem_of_getElem? (i := 175) rfl) rfl (gi_c (List.mem_of_getElem? (i := 179) rfl) rfl (gi_c (List.mem_of_getElem? (i := 183) rfl) rfl (gi_c (List.mem_of_getElem? (i := 187) rfl) rfl (gi_c (List.mem_of_getElem? (i := 191) rfl) rfl (gi_c (List.mem_of_getElem? (i := 196) rfl) rfl (gi_n))))))))))))
set_option maxRecDepth 100000 in
theorem pIn_m_4 : GoodIn tables_1_3 (pMs_4.map pWm) := gi_c (List.mem_of_getElem? (i := 200) rfl) rfl (gi_c (List.mem_of_getElem? (i := 204) rfl) rfl (gi_c (List.mem_of_getElem? (i := 208) rfl) rfl (gi_c (List.mem_of_getElem? (i := 212) rfl) rfl (gi_c (List.mem_of_getElem? (i := 216) rfl) rfl (gi_c (List.mem_of_getElem? (i := 220) rfl) rfl (gi_c (List.mem_of_getElem? (i := 224) rfl) rfl (gi_c (List.mem_of_getElem? (i := 228) rfl) rfl (gi_c (List.mem_of_getElem? (i := 232) rfl) rfl (gi_c (List.mem_of_getElem? (i := 236) rfl) rfl (gi_n))))))))))
set_option maxRecDepth 100000 in
theorem pIn_m_5 : GoodIn tables_1_4 (pMs_5.map pWm) := gi_c (List.mem_of_getElem? (i := 0) rfl) rfl (gi_c (List.mem_of_getElem? (i := 4) rfl) rfl (gi_c (List.mem_of_getElem? (i := 8) rfl) rfl (gi_c (List.mem_of_getElem? (i := 12) rfl) rfl (gi_c (List.mem_of_getElem? (i := 16) rfl) rfl (gi_c (List.mem_of_getElem? (i := 20) rfl) rfl (gi_c (List.mem_of_getElem? (i := 25) rfl) rfl (gi_c (List.mem_of_getElem? (i := 29) rfl) rfl (gi_c (List.mem_of_getElem? (i := 33) rfl) rfl (gi_c (List.mem_of_getElem? (i := 37) rfl) rfl (gi_c (List.mem_of_getElem? (i := 41) rfl) rfl (gi_c (List.mem_of_getElem? (i := 45) rfl) rfl (gi_n))))))))))))
set_option maxRecDepth 100000 in
theorem pIn_m_6 : GoodIn tables_1_4 (pMs_6.map pWm) := gi_c (List.mem_of_getElem? (i := 49) rfl) rfl (gi_c (List.mem_of_getElem? (i := 52) rfl) rfl (gi_c (List.mem_of_getElem? (i := 56) rfl) rfl (gi_c (List.mem_of_getElem? (i := 60) rfl) rfl (gi_c (List.mem_of_getElem? (i := 64) rfl) rfl (gi_c (List.mem_of_getElem? (i := 68) rfl) rfl (gi_c (List.mem_of_getElem? (i := 75) rfl) rfl (gi_c (List.mem_of_getElem? (i := 79) rfl) rfl (gi_c (List.mem_of_getElem? (i := 83) rfl) rfl (gi_c (List.mem_of_getElem? (i := 87) rfl) rfl (gi_c (List.mem_of_getElem? (i := 91) rfl) rfl (gi_c (List.mem_of_getElem? (i := 95) rfl) rfl (gi_n))))))))))))
set_option maxRecDepth 100000 in
theorem pIn_m_7 : GoodIn tables_1_4 (pMs_7.map pWm) := gi_c (List.mem_of_getElem? (i := 98) rfl) rfl (gi_c (List.mem_of_getElem? (i := 102) rfl) rfl (gi_c (List.mem_of_getElem? (i := 106) rfl) rfl (gi_c (List.mem_of_getElem? (i := 110) rfl) rfl (gi_c (List.mem_of_getElem? (i := 114) rfl) rfl (gi_c (List.mem_of_getElem? (i := 117) rfl) rfl (gi_c (List.mem_of_getElem? (i := 121) rfl) rfl (gi_c (List.mem_of_getElem? (i := 124) rfl) rfl (gi_c (List.mem_of_getElem? (i := 132) rfl) rfl (gi_c (List.mem_of_getElem? (i := 135) rfl) rfl (gi_c (List.mem_of_getElem? (i := 139) rfl) rfl (gi_c (List.mem_of_getElem? (i := 143) rfl) rfl (gi_n))))))))))))
set_option maxRecDepth 100000 in
theorem pIn_m_8 : GoodIn tables_1_4 (pMs_8.map pWm) := gi_c (List.mem_of_getElem? (i := 148) rfl) rfl (gi_c (List.mem_of_getElem? (i := 153) rfl) rfl (gi_c (List.mem_of_getElem? (i := 157) rfl) rfl (gi_c (List.mem_of_getElem? (i := 161) rfl) rfl (gi_c (List.mem_of_getElem? (i := 166) rfl) rfl (gi_c (List.mem_of_getElem? (i := 173) rfl) rfl (gi_c (List.mem_of_getElem? (i := 177) rfl) rfl (gi_c (List.mem_of_getElem? (i := 181) rfl) rfl (gi_c (List.mem_of_getElem? (i := 188) rfl) rfl (gi_c (List.mem_of_getElem? (i := 192) rfl) rfl (gi_c (List.mem_of_getElem? (i := 196) rfl) rfl (gi_c (List.mem_of_getElem? (i := 200) rfl) rfl (gi_n))))))))))))
set_option maxRecDepth 100000 in
theorem pIn_m_9 : GoodIn tables_1_4 (pMs_9.map pWm) := gi_c (List.mem_of_getElem? (i := 204) rfl) rfl (gi_c (List.mem_of_getElem? (i := 208) rfl) rfl (gi_c (List.mem_of_getElem? (i := 215) rfl) rfl (gi_c (List.mem_of_getElem? (i := 224) rfl) rfl (gi_c (List.mem_of_getElem? (i := 229) rfl) rfl (gi_c (List.mem_of_getElem? (i := 233) rfl) rfl (gi_c (List.mem_of_getElem? (i := 239) rfl) rfl (gi_n)))))))
set_option maxRecDepth 100000 in
theorem pIn_m_10 : GoodIn tables_1_5 (pMs_10.map pWm) := gi_c (List.mem_of_getElem? (i := 3) rfl) rfl (gi_c (List.mem_of_getElem? (i := 7) rfl) rfl (gi_c (List.mem_of_getElem? (i := 10) rfl) rfl (gi_c (List.mem_of_getElem? (i := 14) rfl) rfl (gi_c (List.mem_of_getElem? (i := 18) rfl) rfl (gi_c (List.mem_of_getElem? (i := 22) rfl) rfl (gi_c (List.mem_of_getElem? (i := 27) rfl) rfl (gi_c (List.mem_of_getElem? (i := 34) rfl) rfl (gi_c (List.mem_of_getElem? (i := 39) rfl) rfl (gi_c (List.mem_of_getElem? (i := 45) rfl) rfl (gi_c (List.mem_of_getElem? (i := 49) rfl) rfl (gi_c (List.mem_of_getElem? (i := 53) rfl) rfl (gi_n))))))))))))
set_option maxRecDepth 100000 in
theorem pIn_m_11 : GoodIn tables_1_5 (pMs_11.map pWm) := gi_c (List.mem_of_getElem? (i := 57) rfl) rfl (gi_c (List.mem_of_getElem? (i := 61) rfl) rfl (gi_c (List.mem_of_getElem? (i := 64) rfl) rfl (gi_c (List.mem_of_getElem? (i := 68) rfl) rfl (gi_c (List.mem_of_getElem? (i := 73) rfl) rfl (gi_c (List.mem_of_getElem? (i := 77) rfl) rfl (gi_c (List.mem_of_getElem? (i := 84) rfl) rfl (gi_c (List.mem_of_getElem? (i := 89) rfl) rfl (gi_c (List.mem_of_getElem? (i := 94) rfl) rfl (gi_c (List.mem_of_getElem? (i := 98) rfl) rfl (gi_c (List.mem_of_getElem? (i := 102) rfl) rfl (gi_c (List.mem_of_getElem? (i := 106) rfl) rfl (gi_n))))))))))))
set_option maxRecDepth 100000 in
theorem pIn_m_12 : GoodIn tables_1_5 (pMs_12.map pWm) := gi_c (List.mem_of_getElem? (i := 110) rfl) rfl (gi_c (List.mem_of_getElem? (i := 114) rfl) rfl (gi_c (List.mem_of_getElem? (i := 118) rfl) rfl (gi_c (List.mem_of_getElem? (i := 122) rfl) rfl (gi_c (List.mem_of_getElem? (i := 127) rfl) rfl (gi_c (List.mem_of_getElem? (i := 131) rfl) rfl (gi_c (List.mem_of_getElem? (i := 135) rfl) rfl (gi_c (List.mem_of_getElem? (i := 139) rfl) rfl (gi_c (List.mem_of_getElem? (i := 143) rfl) rfl (gi_c (List.mem_of_getElem? (i := 147) rfl) rfl (gi_c (List.mem_of_getElem? (i := 151) rfl) rfl (gi_c (List.mem_of_getElem? (i := 155) rfl) rfl (gi_n))))))))))))
set_option maxRecDepth 100000 in
theorem pIn_m_13 : GoodIn tables_1_5 (pMs_13.map pWm) := gi_c (List.mem_of_getElem? (i := 159) rfl) rfl (gi_c (List.mem_of_getElem? (i := 163) rfl) rfl (gi_c (List.mem_of_getElem? (i := 167) rfl) rfl (gi_c (List.mem_of_getElem? (i := 171) rfl) rfl (gi_c (List.mem_of_getElem? (i := 175) rfl) rfl (gi_c (List.mem_of_getElem? (i := 179) rfl) rfl (gi_c (List.mem_of_getElem? (i := 185) rfl) rfl (gi_c (List.mem_of_getElem? (i := 189) rfl) rfl (gi_c (List.mem_of_getElem? (i := 193) rfl) rfl (gi_c (List.mem_of_getElem? (i := 197) rfl) rfl (gi_c (List.mem_of_getElem? (i := 201) rfl) rfl (gi_c (List.mem_of_getElem? (i := 205) rfl) rfl (gi_n))))))))))))
set_option maxRecDepth 100000 in
theorem pIn_m_14 : GoodIn tables_1_5 (pMs_14.map pWm) := gi_c (List.mem_of_getElem? (i := 209) rfl) rfl (gi_c (List.mem_of_getElem? (i := 214) rfl) rfl (gi_c (List.mem_of_getElem? (i := 218) rfl) rfl (gi_c (List.mem_of_getElem? (i := 222) rfl) rfl (gi_c (List.mem_of_getElem? (i := 226) rfl) rfl (gi_c (List.mem_of_getElem? (i := 230) rfl) rfl (gi_c (List.mem_of_getElem? (i := 234) rfl) rfl (gi_c (List.mem_of_getElem? (i := 239) rfl) rfl (gi_n))))))))
set_option maxRecDepth 100000 in
theorem pIn_m_15 : GoodIn tables_1_6 (pMs_15.map pWm) := gi_c (List.mem_of_getElem? (i := 8) rfl) rfl (gi_c (List.mem_of_getElem? (i := 96) rfl) rfl (gi_c (List.mem_of_getElem? (i := 101) rfl) rfl (gi_n)))
set_option maxRecDepth 100000 in
theorem pIn_m_16 : GoodIn tables_1_7 (pMs_16.map pWm) := gi_c (List.mem_of_getElem? (i := 94) rfl) rfl (gi_c (List.mem_of_getElem? (i := 98) rfl) rfl (gi_c (List.mem_of_getElem? (i := 102) rfl) rfl (gi_c (List.mem_of_getElem? (i := 106) rfl) rfl (gi_c (List.mem_of_getElem? (i := 110) rfl) rfl (gi_c (List.mem_of_getElem? (i := 114) rfl) rfl (gi_c (List.mem_of_getElem? (i := 117) rfl) rfl (gi_c (List.mem_of_getElem? (i := 121) rfl) rfl (gi_c (List.mem_of_getElem? (i := 128) rfl) rfl (gi_c (List.mem_of_getElem? (i := 131) rfl) rfl (gi_c (List.mem_of_getElem? (i := 136) rfl) rfl (gi_c (List.mem_of_getElem? (i := 140) rfl) rfl (gi_n))))))))))))
set_option maxRecDepth 100000 in
theorem pIn_m_17 : GoodIn tables_1_7 (pMs_17.map pWm) := gi_c (List.mem_of_getElem? (i := 144) rfl) rfl (gi_c (List.mem_of_getElem? (i := 148) rfl) rfl (gi_c (List.mem_of_getElem? (i := 152) rfl) rfl (gi_c (List.mem_of_getElem? (i := 156) rfl) rfl (gi_c (List.mem_of_getElem? (i := 160) rfl) rfl (gi_c (List.mem_of_getElem? (i := 163) rfl) rfl (gi_c (List.mem_of_getElem? (i := 167) rfl) rfl (gi_c (List.mem_of_getElem? (i := 171) rfl) rfl (gi_c (List.mem_of_getElem? (i := 175) rfl) rfl (gi_c (List.mem_of_getElem? (i := 179) rfl) rfl (gi_c (List.mem_of_getElem? (i := 183) rfl) rfl (gi_c (List.mem_of_getElem? (i := 187) rfl) rfl (gi_n))))))))))))
set_option maxRecDepth 100000 in
theorem pIn_m_18 : GoodIn tables_1_7 (pMs_18.map pWm) := gi_c (List.mem_of_getElem? (i := 191) rfl) rfl (gi_c (List.mem_of_getElem? (i := 195) rfl) rfl (gi_c (List.mem_of_getElem? (i := 199) rfl) rfl (gi_c (List.mem_of_getElem? (i := 203) rfl) rfl (gi_c (List.mem_of_getElem? (i := 207) rfl) rfl (gi_c (List.mem_of_getElem? (i := 211) rfl) rfl (gi_c (List.mem_of_getElem? (i := 215) rfl) rfl (gi_c (List.mem_of_getElem? (i := 219) rfl) rfl (gi_c (List.mem_of_getElem? (i := 223) rfl) rfl (gi_c (List.mem_of_getElem? (i := 226) rfl) rfl (gi_c (List.mem_of_getElem? (i := 230) rfl) rfl (gi_c (List.mem_of_getElem? (i := 234) rfl) rfl (gi_n))))))))))))
set_option maxRecDepth 100000 in
theorem pIn_m_19 : GoodIn tables_1_7 (pMs_19.map pWm) := gi_c (List.mem_of_getElem? (i := 238) rfl) rfl (gi_n)
set_option maxRecDepth 100000 in
theorem pIn_m_20 : GoodIn tables_1_8 (pMs_20.map pWm) := gi_c (List.mem_of_getElem? (i := 2) rfl) rfl (gi_c (List.mem_of_getElem? (i := 6) rfl) rfl (gi_c (List.mem_of_getElem? (i := 11) rfl) rfl (gi_c (List.mem_of_getElem? (i := 15) rfl) rfl (gi_c (List.mem_of_getElem? (i := 19) rfl) rfl (gi_c (List.mem_of_getElem? (i := 23) rfl) rfl (gi_c (List.mem_of_getElem? (i := 27) rfl) rfl (gi_c (List.mem_of_getElem? (i := 30) rfl) rfl (gi_c (List.mem_of_getElem? (i := 34) rfl) rfl (gi_c (List.mem_of_getElem? (i := 38) rfl) rfl (gi_c (List.mem_of_getElem? (i := 44) rfl) rfl (gi_c (List.mem_of_getElem? (i := 48) rfl) rfl (gi_n))))))))))))
set_option maxRecDepth 100000 in
theorem pIn_m_21 : GoodIn tables_1_8 (pMs_21.map pWm) := gi_c (List.mem_of_getElem? (i := 52) rfl) rfl (gi_c (List.mem_of_getElem? (i := 56) rfl) rfl (gi_c (List.mem_of_getElem? (i := 59) rfl) rfl (gi_c (List.mem_of_getElem? (i := 62) rfl) rfl (gi_c (List.mem_of_getElem? (i := 70) rfl) rfl (gi_c (List.mem_of_getElem? (i := 74) rfl) rfl (gi_c (List.mem_of_getElem? (i := 78) rfl) rfl (gi_c (List.mem_of_getElem? (i := 82) rfl) rfl (gi_c (List.mem_of_getElem? (i := 87) rfl) rfl (gi_c (List.mem_of_getElem? (i := 91) rfl) rfl (gi_c (List.mem_of_getElem? (i := 95) rfl) rfl (gi_c (List.mem_of_getElem? (i := 100) rfl) rfl (gi_n))))))))))))
set_option maxRecDepth 100000 in
theorem pIn_m_22 : GoodIn tables_1_8 (pMs_22.map pWm) := gi_c (List.mem_of_getElem? (i := 104) rfl) rfl (gi_c (List.mem_of_getElem? (i := 108) rfl) rfl (gi_c (List.mem_of_getElem? (i := 112) rfl) rfl (gi_c (List.mem_of_getElem? (i := 116) rfl) rfl (gi_c (List.mem_of_getElem? (i := 120) rfl) rfl (gi_c (List.mem_of_getElem? (i := 124) rfl) rfl (gi_c (List.mem_of_getElem? (i := 128) rfl) rfl (gi_c (List.mem_of_getElem? (i := 132) rfl) rfl (gi_c (List.mem_of_getElem? (i := 136) rfl) rfl (gi_c (List.mem_of_getElem? (i := 140) rfl) rfl (gi_c (List.mem_of_getElem? (i := 146) rfl) rfl (gi_c (List.mem_of_getElem? (i := 150) rfl) rfl (gi_n))))))))))))
set_option maxRecDepth 100000 in
theorem pIn_m_23 : GoodIn tables_1_8 (pMs_23.map pWm) := gi_c (List.mem_of_getElem? (i := 154) rfl) rfl (gi_c (List.mem_of_getElem? (i := 158) rfl) rfl (gi_c (List.mem_of_getElem? (i := 162) rfl) rfl (gi_c (List.mem_of_getElem? (i := 166) rfl) rfl (gi_c (List.mem_of_getElem? (i := 170) rfl) rfl (gi_c (List.mem_of_getElem? (i := 174) rfl) rfl (gi_c (List.mem_of_getElem? (i := 178) rfl) rfl (gi_c (List.mem_of_getElem? (i := 182) rfl) rfl (gi_c (List.mem_of_getElem? (i := 186) rfl) rfl (gi_c (List.mem_of_getElem? (i := 190) rfl) rfl (gi_c (List.mem_of_getElem? (i := 194) rfl) rfl (gi_c (List.mem_of_getElem? (i := 198) rfl) rfl (gi_n))))))))))))
set_option maxRecDepth 100000 in
theorem pIn_m_24 : GoodIn tables_1_8 (pMs_24.map pWm) := gi_c (List.mem_of_getElem? (i := 202) rfl) rfl (gi_c (List.mem_of_getElem? (i := 206) rfl) rfl (gi_c (List.mem_of_getElem? (i := 210) rfl) rfl (gi_c (List.mem_of_getElem? (i := 214) rfl) rfl (gi_c (List.mem_of_getElem? (i := 218) rfl) rfl (gi_c (List.mem_of_getElem? (i := 222) rfl) rfl (gi_c (List.mem_of_getElem? (i := 227) rfl) rfl (gi_c (List.mem_of_getElem? (i := 231) rfl) rfl (gi_c (List.mem_of_getElem? (i := 235) rfl) rfl (gi_c (List.mem_of_getElem? (i := 239) rfl) rfl (gi_n))))))))))
set_option maxRecDepth 100000 in
theorem pIn_m_25 : GoodIn tables_1_9 (pMs_25.map pWm) := gi_c (List.mem_of_getElem? (i := 3) rfl) rfl (gi_c (List.mem_of_getElem? (i := 7) rfl) rfl (gi_c (List.mem_of_getElem? (i := 11) rfl) rfl (gi_c (List.mem_of_getElem? (i := 15) rfl) rfl (gi_c (List.mem_of_getElem? (i := 19) rfl) rfl (gi_c (List.mem_of_getElem? (i := 23) rfl) rfl (gi_c (List.mem_of_getElem? (i := 27) rfl) rfl (gi_c (List.mem_of_getElem? (i := 31) rfl) rfl (gi_c (List.mem_of_getElem? (i := 35) rfl) rfl (gi_c (List.mem_of_getElem? (i := 39) rfl) rfl (gi_c (List.mem_of_getElem? (i := 43) rfl) rfl (gi_c (List.mem_of_getElem? (i := 47) rfl) rfl (gi_n))))))))))))
set_option maxRecDepth 100000 in
theorem pIn_m_26 : GoodIn tables_1_9 (pMs_26.map pWm) := gi_c (List.mem_of_getElem? (i := 51) rfl) rfl (gi_c (List.mem_of_getElem? (i := 55) rfl) rfl (gi_c (List.mem_of_getElem? (i := 59) rfl) rfl (gi_c (List.mem_of_getElem? (i := 63) rfl) rfl (gi_c (List.mem_of_getElem? (i := 67) rfl) rfl (gi_c (List.mem_of_getElem? (i := 71) rfl) rfl (gi_c (List.mem_of_getElem? (i := 75) rfl) rfl (gi_c (List.mem_of_getElem? (i := 79) rfl) rfl (gi_n))))))))
theorem pIn_m : GoodIn lw_tbl (pMs.map pWm) := goodIn_ma (goodIn_up pt_1 pIn_m_0) (goodIn_ma (goodIn_up pt_2 pIn_m_1) (goodIn_ma (goodIn_up pt_3 pIn_m_2) (goodIn_ma (goodIn_up pt_3 pIn_m_3) (goodIn_ma (goodIn_up pt_3 pIn_m_4) (goodIn_ma (goodIn_up pt_4 pIn_m_5) (goodIn_ma (goodIn_up pt_4 pIn_m_6) (goodIn_ma (goodIn_up pt_4 pIn_m_7) (goodIn_ma (goodIn_up pt_4 pIn_m_8) (goodIn_ma (goodIn_up pt_4 pIn_m_9) (goodIn_ma (goodIn_up pt_5 pIn_m_10) (goodIn_ma (goodIn_up pt_5 pIn_m_11) (goodIn_ma (goodIn_up pt_5 pIn_m_12) (goodIn_ma (goodIn_up pt_5 pIn_m_13) (goodIn_ma (goodIn_up pt_5 pIn_m_14) (goodIn_ma (goodIn_up pt_6 pIn_m_15) (goodIn_ma (goodIn_up pt_7 pIn_m_16) (goodIn_ma (goodIn_up pt_7 pIn_m_17) (goodIn_ma (goodIn_up pt_7 pIn_m_18) (goodIn_ma (goodIn_up pt_7 pIn_m_19) (goodIn_ma (goodIn_up pt_8 pIn_m_20) (goodIn_ma (goodIn_up pt_8 pIn_m_21) (goodIn_ma (goodIn_up pt_8 pIn_m_22) (goodIn_ma (goodIn_up pt_8 pIn_m_23) (goodIn_ma (goodIn_up pt_8 pIn_m_24) (goodIn_ma (goodIn_up pt_9 pIn_m_25) (goodIn_up pt_9 pIn_m_26))))))))))))))))))))))))))
end
