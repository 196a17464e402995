section
-- ===== PART A: goes FIRST, ahead of the names: the tables' words, and 'selects' of the private methods out of them =====
/-- a private method of a class that the tables say can be made, by its rows of tables_1 -/
def lw_okq (q : MethodName × Nat) : Prop := (q.1.cls ≠ "java/lang/invoke/MethodHandle" ∧ q.1.cls ≠ "java/lang/invoke/VarHandle") ∧ Cond.instantiable q.1.cls q.2 ∈ tables_1 ∧ Cond.privateMethod q.1 ∈ tables_1 ∧ Cond.instanceMethod q.1 ∈ tables_1
theorem lw_p0 : lw_okq (⟨"UphillCarts", "begin", "()V"⟩, 19) := ⟨⟨by decide +kernel, by decide +kernel⟩, List.mem_of_getElem? (i := 26) (by decide +kernel), List.mem_of_getElem? (i := 529) (by decide +kernel), List.mem_of_getElem? (i := 530) (by decide +kernel)⟩
theorem lw_p1 : lw_okq (⟨"UphillCarts", "addBytes", "(I)V"⟩, 19) := ⟨⟨by decide +kernel, by decide +kernel⟩, List.mem_of_getElem? (i := 26) (by decide +kernel), List.mem_of_getElem? (i := 607) (by decide +kernel), List.mem_of_getElem? (i := 608) (by decide +kernel)⟩
theorem lw_p2 : lw_okq (⟨"UphillCarts$Tokens", "readWord", "()V"⟩, 7) := ⟨⟨by decide +kernel, by decide +kernel⟩, List.mem_of_getElem? (i := 239) (by decide +kernel), List.mem_of_getElem? (i := 634) (by decide +kernel), List.mem_of_getElem? (i := 635) (by decide +kernel)⟩
theorem lw_p3 : lw_okq (⟨"UphillCarts$Tokens", "kindOf", "(I)I"⟩, 7) := ⟨⟨by decide +kernel, by decide +kernel⟩, List.mem_of_getElem? (i := 239) (by decide +kernel), List.mem_of_getElem? (i := 638) (by decide +kernel), List.mem_of_getElem? (i := 639) (by decide +kernel)⟩
theorem lw_p4 : lw_okq (⟨"UphillCarts$Tokens", "readNumber", "()V"⟩, 7) := ⟨⟨by decide +kernel, by decide +kernel⟩, List.mem_of_getElem? (i := 239) (by decide +kernel), List.mem_of_getElem? (i := 645) (by decide +kernel), List.mem_of_getElem? (i := 646) (by decide +kernel)⟩
theorem lw_p5 : lw_okq (⟨"UphillCarts$Tokens", "readSecondSign", "()V"⟩, 7) := ⟨⟨by decide +kernel, by decide +kernel⟩, List.mem_of_getElem? (i := 239) (by decide +kernel), List.mem_of_getElem? (i := 653) (by decide +kernel), List.mem_of_getElem? (i := 654) (by decide +kernel)⟩
theorem lw_p6 : lw_okq (⟨"UphillCarts$Parser", "readLine", "()Z"⟩, 11) := ⟨⟨by decide +kernel, by decide +kernel⟩, List.mem_of_getElem? (i := 233) (by decide +kernel), List.mem_of_getElem? (i := 657) (by decide +kernel), List.mem_of_getElem? (i := 658) (by decide +kernel)⟩
theorem lw_p7 : lw_okq (⟨"UphillCarts$Parser", "isBelow", "(II)Z"⟩, 11) := ⟨⟨by decide +kernel, by decide +kernel⟩, List.mem_of_getElem? (i := 233) (by decide +kernel), List.mem_of_getElem? (i := 661) (by decide +kernel), List.mem_of_getElem? (i := 662) (by decide +kernel)⟩
theorem lw_p8 : lw_okq (⟨"UphillCarts$Parser", "fails", "(I)Z"⟩, 11) := ⟨⟨by decide +kernel, by decide +kernel⟩, List.mem_of_getElem? (i := 233) (by decide +kernel), List.mem_of_getElem? (i := 665) (by decide +kernel), List.mem_of_getElem? (i := 666) (by decide +kernel)⟩
theorem lw_p9 : lw_okq (⟨"UphillCarts$Parser", "readBend", "()Z"⟩, 11) := ⟨⟨by decide +kernel, by decide +kernel⟩, List.mem_of_getElem? (i := 233) (by decide +kernel), List.mem_of_getElem? (i := 669) (by decide +kernel), List.mem_of_getElem? (i := 670) (by decide +kernel)⟩
theorem lw_p10 : lw_okq (⟨"UphillCarts$Parser", "isNewName", "(I)Z"⟩, 11) := ⟨⟨by decide +kernel, by decide +kernel⟩, List.mem_of_getElem? (i := 233) (by decide +kernel), List.mem_of_getElem? (i := 678) (by decide +kernel), List.mem_of_getElem? (i := 679) (by decide +kernel)⟩
theorem lw_p11 : lw_okq (⟨"UphillCarts$Parser", "takesNumber", "(II)Z"⟩, 11) := ⟨⟨by decide +kernel, by decide +kernel⟩, List.mem_of_getElem? (i := 233) (by decide +kernel), List.mem_of_getElem? (i := 682) (by decide +kernel), List.mem_of_getElem? (i := 683) (by decide +kernel)⟩
theorem lw_p12 : lw_okq (⟨"UphillCarts$Parser", "readWind", "()Z"⟩, 11) := ⟨⟨by decide +kernel, by decide +kernel⟩, List.mem_of_getElem? (i := 233) (by decide +kernel), List.mem_of_getElem? (i := 686) (by decide +kernel), List.mem_of_getElem? (i := 687) (by decide +kernel)⟩
theorem lw_p13 : lw_okq (⟨"UphillCarts$Parser", "readGoods", "()Z"⟩, 11) := ⟨⟨by decide +kernel, by decide +kernel⟩, List.mem_of_getElem? (i := 233) (by decide +kernel), List.mem_of_getElem? (i := 690) (by decide +kernel), List.mem_of_getElem? (i := 691) (by decide +kernel)⟩
theorem lw_p14 : lw_okq (⟨"UphillCarts$Parser", "readBag", "()Z"⟩, 11) := ⟨⟨by decide +kernel, by decide +kernel⟩, List.mem_of_getElem? (i := 233) (by decide +kernel), List.mem_of_getElem? (i := 698) (by decide +kernel), List.mem_of_getElem? (i := 699) (by decide +kernel)⟩
theorem lw_p15 : lw_okq (⟨"UphillCarts$Parser", "readDepot", "()Z"⟩, 11) := ⟨⟨by decide +kernel, by decide +kernel⟩, List.mem_of_getElem? (i := 233) (by decide +kernel), List.mem_of_getElem? (i := 706) (by decide +kernel), List.mem_of_getElem? (i := 707) (by decide +kernel)⟩
def lw_privs_1 : List (MethodName × Nat) := [(⟨"UphillCarts", "begin", "()V"⟩, 19), (⟨"UphillCarts", "addBytes", "(I)V"⟩, 19), (⟨"UphillCarts$Tokens", "readWord", "()V"⟩, 7), (⟨"UphillCarts$Tokens", "kindOf", "(I)I"⟩, 7), (⟨"UphillCarts$Tokens", "readNumber", "()V"⟩, 7), (⟨"UphillCarts$Tokens", "readSecondSign", "()V"⟩, 7), (⟨"UphillCarts$Parser", "readLine", "()Z"⟩, 11), (⟨"UphillCarts$Parser", "isBelow", "(II)Z"⟩, 11), (⟨"UphillCarts$Parser", "fails", "(I)Z"⟩, 11), (⟨"UphillCarts$Parser", "readBend", "()Z"⟩, 11), (⟨"UphillCarts$Parser", "isNewName", "(I)Z"⟩, 11), (⟨"UphillCarts$Parser", "takesNumber", "(II)Z"⟩, 11), (⟨"UphillCarts$Parser", "readWind", "()Z"⟩, 11), (⟨"UphillCarts$Parser", "readGoods", "()Z"⟩, 11), (⟨"UphillCarts$Parser", "readBag", "()Z"⟩, 11), (⟨"UphillCarts$Parser", "readDepot", "()Z"⟩, 11)]
theorem lw_r1 : ∀ q ∈ lw_privs_1, lw_okq q := List.forall_mem_cons.mpr ⟨lw_p0, List.forall_mem_cons.mpr ⟨lw_p1, List.forall_mem_cons.mpr ⟨lw_p2, List.forall_mem_cons.mpr ⟨lw_p3, List.forall_mem_cons.mpr ⟨lw_p4, List.forall_mem_cons.mpr ⟨lw_p5, List.forall_mem_cons.mpr ⟨lw_p6, List.forall_mem_cons.mpr ⟨lw_p7, List.forall_mem_cons.mpr ⟨lw_p8, List.forall_mem_cons.mpr ⟨lw_p9, List.forall_mem_cons.mpr ⟨lw_p10, List.forall_mem_cons.mpr ⟨lw_p11, List.forall_mem_cons.mpr ⟨lw_p12, List.forall_mem_cons.mpr ⟨lw_p13, List.forall_mem_cons.mpr ⟨lw_p14, List.forall_mem_cons.mpr ⟨lw_p15, fun _ h => absurd h List.not_mem_nil⟩⟩⟩⟩⟩⟩⟩⟩⟩⟩⟩⟩⟩⟩⟩⟩
theorem lw_p16 : lw_okq (⟨"UphillCarts$Parser", "bendToldAhead", "(I)I"⟩, 11) := ⟨⟨by decide +kernel, by decide +kernel⟩, List.mem_of_getElem? (i := 233) (by decide +kernel), List.mem_of_getElem? (i := 710) (by decide +kernel), List.mem_of_getElem? (i := 711) (by decide +kernel)⟩
theorem lw_p17 : lw_okq (⟨"UphillCarts$Parser", "readThief", "()Z"⟩, 11) := ⟨⟨by decide +kernel, by decide +kernel⟩, List.mem_of_getElem? (i := 233) (by decide +kernel), List.mem_of_getElem? (i := 714) (by decide +kernel), List.mem_of_getElem? (i := 715) (by decide +kernel)⟩
theorem lw_p18 : lw_okq (⟨"UphillCarts$Parser", "isToldOnce", "()Z"⟩, 11) := ⟨⟨by decide +kernel, by decide +kernel⟩, List.mem_of_getElem? (i := 233) (by decide +kernel), List.mem_of_getElem? (i := 718) (by decide +kernel), List.mem_of_getElem? (i := 719) (by decide +kernel)⟩
theorem lw_p19 : lw_okq (⟨"UphillCarts$Parser", "readWarm", "()Z"⟩, 11) := ⟨⟨by decide +kernel, by decide +kernel⟩, List.mem_of_getElem? (i := 233) (by decide +kernel), List.mem_of_getElem? (i := 722) (by decide +kernel), List.mem_of_getElem? (i := 723) (by decide +kernel)⟩
theorem lw_p20 : lw_okq (⟨"UphillCarts$Parser", "readHorse", "()Z"⟩, 11) := ⟨⟨by decide +kernel, by decide +kernel⟩, List.mem_of_getElem? (i := 233) (by decide +kernel), List.mem_of_getElem? (i := 726) (by decide +kernel), List.mem_of_getElem? (i := 727) (by decide +kernel)⟩
theorem lw_p21 : lw_okq (⟨"UphillCarts$Parser", "readRope", "()Z"⟩, 11) := ⟨⟨by decide +kernel, by decide +kernel⟩, List.mem_of_getElem? (i := 233) (by decide +kernel), List.mem_of_getElem? (i := 730) (by decide +kernel), List.mem_of_getElem? (i := 731) (by decide +kernel)⟩
theorem lw_p22 : lw_okq (⟨"UphillCarts$Parser", "readStone", "()Z"⟩, 11) := ⟨⟨by decide +kernel, by decide +kernel⟩, List.mem_of_getElem? (i := 233) (by decide +kernel), List.mem_of_getElem? (i := 734) (by decide +kernel), List.mem_of_getElem? (i := 735) (by decide +kernel)⟩
theorem lw_p23 : lw_okq (⟨"UphillCarts$Parser", "readSeed", "()Z"⟩, 11) := ⟨⟨by decide +kernel, by decide +kernel⟩, List.mem_of_getElem? (i := 233) (by decide +kernel), List.mem_of_getElem? (i := 738) (by decide +kernel), List.mem_of_getElem? (i := 739) (by decide +kernel)⟩
theorem lw_p24 : lw_okq (⟨"UphillCarts$Parser", "readLaw", "()Z"⟩, 11) := ⟨⟨by decide +kernel, by decide +kernel⟩, List.mem_of_getElem? (i := 233) (by decide +kernel), List.mem_of_getElem? (i := 743) (by decide +kernel), List.mem_of_getElem? (i := 744) (by decide +kernel)⟩
theorem lw_p25 : lw_okq (⟨"UphillCarts$Parser", "takesValue", "(LUphillCarts$Law;)Z"⟩, 11) := ⟨⟨by decide +kernel, by decide +kernel⟩, List.mem_of_getElem? (i := 233) (by decide +kernel), List.mem_of_getElem? (i := 751) (by decide +kernel), List.mem_of_getElem? (i := 752) (by decide +kernel)⟩
theorem lw_p26 : lw_okq (⟨"UphillCarts$Parser", "isOneKnotMore", "()Z"⟩, 11) := ⟨⟨by decide +kernel, by decide +kernel⟩, List.mem_of_getElem? (i := 233) (by decide +kernel), List.mem_of_getElem? (i := 759) (by decide +kernel), List.mem_of_getElem? (i := 760) (by decide +kernel)⟩
theorem lw_p27 : lw_okq (⟨"UphillCarts$Parser", "push", "(I)V"⟩, 11) := ⟨⟨by decide +kernel, by decide +kernel⟩, List.mem_of_getElem? (i := 233) (by decide +kernel), List.mem_of_getElem? (i := 763) (by decide +kernel), List.mem_of_getElem? (i := 764) (by decide +kernel)⟩
theorem lw_p28 : lw_okq (⟨"UphillCarts$Parser", "rankOnTop", "()I"⟩, 11) := ⟨⟨by decide +kernel, by decide +kernel⟩, List.mem_of_getElem? (i := 233) (by decide +kernel), List.mem_of_getElem? (i := 767) (by decide +kernel), List.mem_of_getElem? (i := 768) (by decide +kernel)⟩
theorem lw_p29 : lw_okq (⟨"UphillCarts$Parser", "settle", "(LUphillCarts$Law;I)V"⟩, 11) := ⟨⟨by decide +kernel, by decide +kernel⟩, List.mem_of_getElem? (i := 233) (by decide +kernel), List.mem_of_getElem? (i := 774) (by decide +kernel), List.mem_of_getElem? (i := 775) (by decide +kernel)⟩
theorem lw_p30 : lw_okq (⟨"UphillCarts$Parser", "takesSign", "(LUphillCarts$Law;)Z"⟩, 11) := ⟨⟨by decide +kernel, by decide +kernel⟩, List.mem_of_getElem? (i := 233) (by decide +kernel), List.mem_of_getElem? (i := 778) (by decide +kernel), List.mem_of_getElem? (i := 779) (by decide +kernel)⟩
theorem lw_p31 : lw_okq (⟨"UphillCarts", "isGoods", "(I)Z"⟩, 19) := ⟨⟨by decide +kernel, by decide +kernel⟩, List.mem_of_getElem? (i := 26) (by decide +kernel), List.mem_of_getElem? (i := 797) (by decide +kernel), List.mem_of_getElem? (i := 798) (by decide +kernel)⟩
def lw_privs_2 : List (MethodName × Nat) := [(⟨"UphillCarts$Parser", "bendToldAhead", "(I)I"⟩, 11), (⟨"UphillCarts$Parser", "readThief", "()Z"⟩, 11), (⟨"UphillCarts$Parser", "isToldOnce", "()Z"⟩, 11), (⟨"UphillCarts$Parser", "readWarm", "()Z"⟩, 11), (⟨"UphillCarts$Parser", "readHorse", "()Z"⟩, 11), (⟨"UphillCarts$Parser", "readRope", "()Z"⟩, 11), (⟨"UphillCarts$Parser", "readStone", "()Z"⟩, 11), (⟨"UphillCarts$Parser", "readSeed", "()Z"⟩, 11), (⟨"UphillCarts$Parser", "readLaw", "()Z"⟩, 11), (⟨"UphillCarts$Parser", "takesValue", "(LUphillCarts$Law;)Z"⟩, 11), (⟨"UphillCarts$Parser", "isOneKnotMore", "()Z"⟩, 11), (⟨"UphillCarts$Parser", "push", "(I)V"⟩, 11), (⟨"UphillCarts$Parser", "rankOnTop", "()I"⟩, 11), (⟨"UphillCarts$Parser", "settle", "(LUphillCarts$Law;I)V"⟩, 11), (⟨"UphillCarts$Parser", "takesSign", "(LUphillCarts$Law;)Z"⟩, 11), (⟨"UphillCarts", "isGoods", "(I)Z"⟩, 19)]
theorem lw_r2 : ∀ q ∈ lw_privs_2, lw_okq q := List.forall_mem_cons.mpr ⟨lw_p16, List.forall_mem_cons.mpr ⟨lw_p17, List.forall_mem_cons.mpr ⟨lw_p18, List.forall_mem_cons.mpr ⟨lw_p19, List.forall_mem_cons.mpr ⟨lw_p20, List.forall_mem_cons.mpr ⟨lw_p21, List.forall_mem_cons.mpr ⟨lw_p22, List.forall_mem_cons.mpr ⟨lw_p23, List.forall_mem_cons.mpr ⟨lw_p24, List.forall_mem_cons.mpr ⟨lw_p25, List.forall_mem_cons.mpr ⟨lw_p26, List.forall_mem_cons.mpr ⟨lw_p27, List.forall_mem_cons.mpr ⟨lw_p28, List.forall_mem_cons.mpr ⟨lw_p29, List.forall_mem_cons.mpr ⟨lw_p30, List.forall_mem_cons.mpr ⟨lw_p31, fun _ h => absurd h List.not_mem_nil⟩⟩⟩⟩⟩⟩⟩⟩⟩⟩⟩⟩⟩⟩⟩⟩
theorem lw_p32 : lw_okq (⟨"UphillCarts", "isSort", "(I)Z"⟩, 19) := ⟨⟨by decide +kernel, by decide +kernel⟩, List.mem_of_getElem? (i := 26) (by decide +kernel), List.mem_of_getElem? (i := 805) (by decide +kernel), List.mem_of_getElem? (i := 806) (by decide +kernel)⟩
theorem lw_p33 : lw_okq (⟨"UphillCarts", "isBend", "(I)Z"⟩, 19) := ⟨⟨by decide +kernel, by decide +kernel⟩, List.mem_of_getElem? (i := 26) (by decide +kernel), List.mem_of_getElem? (i := 813) (by decide +kernel), List.mem_of_getElem? (i := 814) (by decide +kernel)⟩
theorem lw_p34 : lw_okq (⟨"UphillCarts", "canBeLoaded", "()Z"⟩, 19) := ⟨⟨by decide +kernel, by decide +kernel⟩, List.mem_of_getElem? (i := 26) (by decide +kernel), List.mem_of_getElem? (i := 895) (by decide +kernel), List.mem_of_getElem? (i := 896) (by decide +kernel)⟩
theorem lw_p35 : lw_okq (⟨"UphillCarts", "remember", "()V"⟩, 19) := ⟨⟨by decide +kernel, by decide +kernel⟩, List.mem_of_getElem? (i := 26) (by decide +kernel), List.mem_of_getElem? (i := 899) (by decide +kernel), List.mem_of_getElem? (i := 900) (by decide +kernel)⟩
theorem lw_p36 : lw_okq (⟨"UphillCarts", "hasWays", "()Z"⟩, 19) := ⟨⟨by decide +kernel, by decide +kernel⟩, List.mem_of_getElem? (i := 26) (by decide +kernel), List.mem_of_getElem? (i := 922) (by decide +kernel), List.mem_of_getElem? (i := 923) (by decide +kernel)⟩
theorem lw_p37 : lw_okq (⟨"UphillCarts$Cart", "meetThief", "(I)V"⟩, 8) := ⟨⟨by decide +kernel, by decide +kernel⟩, List.mem_of_getElem? (i := 486) (by decide +kernel), List.mem_of_getElem? (i := 933) (by decide +kernel), List.mem_of_getElem? (i := 934) (by decide +kernel)⟩
theorem lw_p38 : lw_okq (⟨"UphillCarts", "hoursUp", "()I"⟩, 19) := ⟨⟨by decide +kernel, by decide +kernel⟩, List.mem_of_getElem? (i := 26) (by decide +kernel), List.mem_of_getElem? (i := 961) (by decide +kernel), List.mem_of_getElem? (i := 962) (by decide +kernel)⟩
theorem lw_p39 : lw_okq (⟨"UphillCarts$Loads", "leaveAll", "(LUphillCarts$Road;)V"⟩, 9) := ⟨⟨by decide +kernel, by decide +kernel⟩, List.mem_of_getElem? (i := 390) (by decide +kernel), List.mem_of_getElem? (i := 980) (by decide +kernel), List.mem_of_getElem? (i := 981) (by decide +kernel)⟩
theorem lw_p40 : lw_okq (⟨"UphillCarts$Loads", "isLeft", "(I)Z"⟩, 9) := ⟨⟨by decide +kernel, by decide +kernel⟩, List.mem_of_getElem? (i := 390) (by decide +kernel), List.mem_of_getElem? (i := 992) (by decide +kernel), List.mem_of_getElem? (i := 993) (by decide +kernel)⟩
theorem lw_p41 : lw_okq (⟨"UphillCarts$Loads", "narrow", "(III)V"⟩, 9) := ⟨⟨by decide +kernel, by decide +kernel⟩, List.mem_of_getElem? (i := 390) (by decide +kernel), List.mem_of_getElem? (i := 997) (by decide +kernel), List.mem_of_getElem? (i := 998) (by decide +kernel)⟩
theorem lw_p42 : lw_okq (⟨"UphillCarts$Loads", "howManyStones", "(II)I"⟩, 9) := ⟨⟨by decide +kernel, by decide +kernel⟩, List.mem_of_getElem? (i := 390) (by decide +kernel), List.mem_of_getElem? (i := 1015) (by decide +kernel), List.mem_of_getElem? (i := 1016) (by decide +kernel)⟩
theorem lw_p43 : lw_okq (⟨"UphillCarts$Loads", "mostStones", "(II)I"⟩, 9) := ⟨⟨by decide +kernel, by decide +kernel⟩, List.mem_of_getElem? (i := 390) (by decide +kernel), List.mem_of_getElem? (i := 1019) (by decide +kernel), List.mem_of_getElem? (i := 1020) (by decide +kernel)⟩
theorem lw_p44 : lw_okq (⟨"UphillCarts$Loads", "fewestStones", "(II)I"⟩, 9) := ⟨⟨by decide +kernel, by decide +kernel⟩, List.mem_of_getElem? (i := 390) (by decide +kernel), List.mem_of_getElem? (i := 1026) (by decide +kernel), List.mem_of_getElem? (i := 1027) (by decide +kernel)⟩
theorem lw_p45 : lw_okq (⟨"UphillCarts$Ballast", "choose", "(IIIII)I"⟩, 4) := ⟨⟨by decide +kernel, by decide +kernel⟩, List.mem_of_getElem? (i := 427) (by decide +kernel), List.mem_of_getElem? (i := 1047) (by decide +kernel), List.mem_of_getElem? (i := 1048) (by decide +kernel)⟩
theorem lw_p46 : lw_okq (⟨"UphillCarts$Ballast", "costOf", "(III)I"⟩, 4) := ⟨⟨by decide +kernel, by decide +kernel⟩, List.mem_of_getElem? (i := 427) (by decide +kernel), List.mem_of_getElem? (i := 1052) (by decide +kernel), List.mem_of_getElem? (i := 1053) (by decide +kernel)⟩
theorem lw_p47 : lw_okq (⟨"UphillCarts$Ballast", "follow", "(LUphillCarts$Road;LUphillCarts$Cart;I)I"⟩, 4) := ⟨⟨by decide +kernel, by decide +kernel⟩, List.mem_of_getElem? (i := 427) (by decide +kernel), List.mem_of_getElem? (i := 1056) (by decide +kernel), List.mem_of_getElem? (i := 1057) (by decide +kernel)⟩
def lw_privs_3 : List (MethodName × Nat) := [(⟨"UphillCarts", "isSort", "(I)Z"⟩, 19), (⟨"UphillCarts", "isBend", "(I)Z"⟩, 19), (⟨"UphillCarts", "canBeLoaded", "()Z"⟩, 19), (⟨"UphillCarts", "remember", "()V"⟩, 19), (⟨"UphillCarts", "hasWays", "()Z"⟩, 19), (⟨"UphillCarts$Cart", "meetThief", "(I)V"⟩, 8), (⟨"UphillCarts", "hoursUp", "()I"⟩, 19), (⟨"UphillCarts$Loads", "leaveAll", "(LUphillCarts$Road;)V"⟩, 9), (⟨"UphillCarts$Loads", "isLeft", "(I)Z"⟩, 9), (⟨"UphillCarts$Loads", "narrow", "(III)V"⟩, 9), (⟨"UphillCarts$Loads", "howManyStones", "(II)I"⟩, 9), (⟨"UphillCarts$Loads", "mostStones", "(II)I"⟩, 9), (⟨"UphillCarts$Loads", "fewestStones", "(II)I"⟩, 9), (⟨"UphillCarts$Ballast", "choose", "(IIIII)I"⟩, 4), (⟨"UphillCarts$Ballast", "costOf", "(III)I"⟩, 4), (⟨"UphillCarts$Ballast", "follow", "(LUphillCarts$Road;LUphillCarts$Cart;I)I"⟩, 4)]
theorem lw_r3 : ∀ q ∈ lw_privs_3, lw_okq q := List.forall_mem_cons.mpr ⟨lw_p32, List.forall_mem_cons.mpr ⟨lw_p33, List.forall_mem_cons.mpr ⟨lw_p34, List.forall_mem_cons.mpr ⟨lw_p35, List.forall_mem_cons.mpr ⟨lw_p36, List.forall_mem_cons.mpr ⟨lw_p37, List.forall_mem_cons.mpr ⟨lw_p38, List.forall_mem_cons.mpr ⟨lw_p39, List.forall_mem_cons.mpr ⟨lw_p40, List.forall_mem_cons.mpr ⟨lw_p41, List.forall_mem_cons.mpr ⟨lw_p42, List.forall_mem_cons.mpr ⟨lw_p43, List.forall_mem_cons.mpr ⟨lw_p44, List.forall_mem_cons.mpr ⟨lw_p45, List.forall_mem_cons.mpr ⟨lw_p46, List.forall_mem_cons.mpr ⟨lw_p47, fun _ h => absurd h List.not_mem_nil⟩⟩⟩⟩⟩⟩⟩⟩⟩⟩⟩⟩⟩⟩⟩⟩
theorem lw_p48 : lw_okq (⟨"UphillCarts", "meetingBend", "(II)I"⟩, 19) := ⟨⟨by decide +kernel, by decide +kernel⟩, List.mem_of_getElem? (i := 26) (by decide +kernel), List.mem_of_getElem? (i := 1072) (by decide +kernel), List.mem_of_getElem? (i := 1073) (by decide +kernel)⟩
theorem lw_p49 : lw_okq (⟨"UphillCarts$Loads", "canBeCarried", "(I)Z"⟩, 9) := ⟨⟨by decide +kernel, by decide +kernel⟩, List.mem_of_getElem? (i := 390) (by decide +kernel), List.mem_of_getElem? (i := 1093) (by decide +kernel), List.mem_of_getElem? (i := 1094) (by decide +kernel)⟩
theorem lw_p50 : lw_okq (⟨"UphillCarts", "isTrial", "(II)Z"⟩, 19) := ⟨⟨by decide +kernel, by decide +kernel⟩, List.mem_of_getElem? (i := 26) (by decide +kernel), List.mem_of_getElem? (i := 1176) (by decide +kernel), List.mem_of_getElem? (i := 1177) (by decide +kernel)⟩
theorem lw_p51 : lw_okq (⟨"java/lang/Throwable", "fillInStackTrace", "(I)Ljava/lang/Throwable;"⟩, 6) := ⟨⟨by decide +kernel, by decide +kernel⟩, List.mem_of_getElem? (i := 1247) (by decide +kernel), List.mem_of_getElem? (i := 1245) (by decide +kernel), List.mem_of_getElem? (i := 1246) (by decide +kernel)⟩
theorem lw_p52 : lw_okq (⟨"UphillCartsModel", "begins", "()V"⟩, 76) := ⟨⟨by decide +kernel, by decide +kernel⟩, List.mem_of_getElem? (i := 1293) (by decide +kernel), List.mem_of_getElem? (i := 1299) (by decide +kernel), List.mem_of_getElem? (i := 1300) (by decide +kernel)⟩
theorem lw_p53 : lw_okq (⟨"UphillCartsModel", "reads", "(II)V"⟩, 76) := ⟨⟨by decide +kernel, by decide +kernel⟩, List.mem_of_getElem? (i := 1293) (by decide +kernel), List.mem_of_getElem? (i := 1540) (by decide +kernel), List.mem_of_getElem? (i := 1541) (by decide +kernel)⟩
theorem lw_p54 : lw_okq (⟨"UphillCartsModel", "token", "()V"⟩, 76) := ⟨⟨by decide +kernel, by decide +kernel⟩, List.mem_of_getElem? (i := 1293) (by decide +kernel), List.mem_of_getElem? (i := 1544) (by decide +kernel), List.mem_of_getElem? (i := 1545) (by decide +kernel)⟩
theorem lw_p55 : lw_okq (⟨"UphillCartsModel", "here", "()I"⟩, 76) := ⟨⟨by decide +kernel, by decide +kernel⟩, List.mem_of_getElem? (i := 1293) (by decide +kernel), List.mem_of_getElem? (i := 1548) (by decide +kernel), List.mem_of_getElem? (i := 1549) (by decide +kernel)⟩
theorem lw_p56 : lw_okq (⟨"UphillCartsModel", "word", "()I"⟩, 76) := ⟨⟨by decide +kernel, by decide +kernel⟩, List.mem_of_getElem? (i := 1293) (by decide +kernel), List.mem_of_getElem? (i := 1555) (by decide +kernel), List.mem_of_getElem? (i := 1556) (by decide +kernel)⟩
theorem lw_p57 : lw_okq (⟨"UphillCartsModel", "name", "()V"⟩, 76) := ⟨⟨by decide +kernel, by decide +kernel⟩, List.mem_of_getElem? (i := 1293) (by decide +kernel), List.mem_of_getElem? (i := 1562) (by decide +kernel), List.mem_of_getElem? (i := 1563) (by decide +kernel)⟩
theorem lw_p58 : lw_okq (⟨"UphillCartsModel", "sign", "(I)V"⟩, 76) := ⟨⟨by decide +kernel, by decide +kernel⟩, List.mem_of_getElem? (i := 1293) (by decide +kernel), List.mem_of_getElem? (i := 1570) (by decide +kernel), List.mem_of_getElem? (i := 1571) (by decide +kernel)⟩
theorem lw_p59 : lw_okq (⟨"UphillCartsModel", "line", "()V"⟩, 76) := ⟨⟨by decide +kernel, by decide +kernel⟩, List.mem_of_getElem? (i := 1293) (by decide +kernel), List.mem_of_getElem? (i := 1574) (by decide +kernel), List.mem_of_getElem? (i := 1575) (by decide +kernel)⟩
theorem lw_p60 : lw_okq (⟨"UphillCartsModel", "wrong", "(I)V"⟩, 76) := ⟨⟨by decide +kernel, by decide +kernel⟩, List.mem_of_getElem? (i := 1293) (by decide +kernel), List.mem_of_getElem? (i := 1578) (by decide +kernel), List.mem_of_getElem? (i := 1579) (by decide +kernel)⟩
theorem lw_p61 : lw_okq (⟨"UphillCartsModel", "isFull", "(I)Z"⟩, 76) := ⟨⟨by decide +kernel, by decide +kernel⟩, List.mem_of_getElem? (i := 1293) (by decide +kernel), List.mem_of_getElem? (i := 1582) (by decide +kernel), List.mem_of_getElem? (i := 1583) (by decide +kernel)⟩
theorem lw_p62 : lw_okq (⟨"UphillCartsModel", "fresher", "(I)I"⟩, 76) := ⟨⟨by decide +kernel, by decide +kernel⟩, List.mem_of_getElem? (i := 1293) (by decide +kernel), List.mem_of_getElem? (i := 1586) (by decide +kernel), List.mem_of_getElem? (i := 1587) (by decide +kernel)⟩
theorem lw_p63 : lw_okq (⟨"UphillCartsModel", "bendLine", "(I)V"⟩, 76) := ⟨⟨by decide +kernel, by decide +kernel⟩, List.mem_of_getElem? (i := 1293) (by decide +kernel), List.mem_of_getElem? (i := 1590) (by decide +kernel), List.mem_of_getElem? (i := 1591) (by decide +kernel)⟩
def lw_privs_4 : List (MethodName × Nat) := [(⟨"UphillCarts", "meetingBend", "(II)I"⟩, 19), (⟨"UphillCarts$Loads", "canBeCarried", "(I)Z"⟩, 9), (⟨"UphillCarts", "isTrial", "(II)Z"⟩, 19), (⟨"java/lang/Throwable", "fillInStackTrace", "(I)Ljava/lang/Throwable;"⟩, 6), (⟨"UphillCartsModel", "begins", "()V"⟩, 76), (⟨"UphillCartsModel", "reads", "(II)V"⟩, 76), (⟨"UphillCartsModel", "token", "()V"⟩, 76), (⟨"UphillCartsModel", "here", "()I"⟩, 76), (⟨"UphillCartsModel", "word", "()I"⟩, 76), (⟨"UphillCartsModel", "name", "()V"⟩, 76), (⟨"UphillCartsModel", "sign", "(I)V"⟩, 76), (⟨"UphillCartsModel", "line", "()V"⟩, 76), (⟨"UphillCartsModel", "wrong", "(I)V"⟩, 76), (⟨"UphillCartsModel", "isFull", "(I)Z"⟩, 76), (⟨"UphillCartsModel", "fresher", "(I)I"⟩, 76), (⟨"UphillCartsModel", "bendLine", "(I)V"⟩, 76)]
theorem lw_r4 : ∀ q ∈ lw_privs_4, lw_okq q := List.forall_mem_cons.mpr ⟨lw_p48, List.forall_mem_cons.mpr ⟨lw_p49, List.forall_mem_cons.mpr ⟨lw_p50, List.forall_mem_cons.mpr ⟨lw_p51, List.forall_mem_cons.mpr ⟨lw_p52, List.forall_mem_cons.mpr ⟨lw_p53, List.forall_mem_cons.mpr ⟨lw_p54, List.forall_mem_cons.mpr ⟨lw_p55, List.forall_mem_cons.mpr ⟨lw_p56, List.forall_mem_cons.mpr ⟨lw_p57, List.forall_mem_cons.mpr ⟨lw_p58, List.forall_mem_cons.mpr ⟨lw_p59, List.forall_mem_cons.mpr ⟨lw_p60, List.forall_mem_cons.mpr ⟨lw_p61, List.forall_mem_cons.mpr ⟨lw_p62, List.forall_mem_cons.mpr ⟨lw_p63, fun _ h => absurd h List.not_mem_nil⟩⟩⟩⟩⟩⟩⟩⟩⟩⟩⟩⟩⟩⟩⟩⟩
theorem lw_p64 : lw_okq (⟨"UphillCartsModel", "fresh", "([III)I"⟩, 76) := ⟨⟨by decide +kernel, by decide +kernel⟩, List.mem_of_getElem? (i := 1293) (by decide +kernel), List.mem_of_getElem? (i := 1594) (by decide +kernel), List.mem_of_getElem? (i := 1595) (by decide +kernel)⟩
theorem lw_p65 : lw_okq (⟨"UphillCartsModel", "numeral", "(II)I"⟩, 76) := ⟨⟨by decide +kernel, by decide +kernel⟩, List.mem_of_getElem? (i := 1293) (by decide +kernel), List.mem_of_getElem? (i := 1601) (by decide +kernel), List.mem_of_getElem? (i := 1602) (by decide +kernel)⟩
theorem lw_p66 : lw_okq (⟨"UphillCartsModel", "isWord", "(I)Z"⟩, 76) := ⟨⟨by decide +kernel, by decide +kernel⟩, List.mem_of_getElem? (i := 1293) (by decide +kernel), List.mem_of_getElem? (i := 1605) (by decide +kernel), List.mem_of_getElem? (i := 1606) (by decide +kernel)⟩
theorem lw_p67 : lw_okq (⟨"UphillCartsModel", "isSign", "(I)Z"⟩, 76) := ⟨⟨by decide +kernel, by decide +kernel⟩, List.mem_of_getElem? (i := 1293) (by decide +kernel), List.mem_of_getElem? (i := 1609) (by decide +kernel), List.mem_of_getElem? (i := 1610) (by decide +kernel)⟩
theorem lw_p68 : lw_okq (⟨"UphillCartsModel", "bendAtHand", "(I)I"⟩, 76) := ⟨⟨by decide +kernel, by decide +kernel⟩, List.mem_of_getElem? (i := 1293) (by decide +kernel), List.mem_of_getElem? (i := 1613) (by decide +kernel), List.mem_of_getElem? (i := 1614) (by decide +kernel)⟩
theorem lw_p69 : lw_okq (⟨"UphillCartsModel", "goOn", "()V"⟩, 76) := ⟨⟨by decide +kernel, by decide +kernel⟩, List.mem_of_getElem? (i := 1293) (by decide +kernel), List.mem_of_getElem? (i := 1617) (by decide +kernel), List.mem_of_getElem? (i := 1618) (by decide +kernel)⟩
theorem lw_p70 : lw_okq (⟨"UphillCartsModel", "warmLine", "()V"⟩, 76) := ⟨⟨by decide +kernel, by decide +kernel⟩, List.mem_of_getElem? (i := 1293) (by decide +kernel), List.mem_of_getElem? (i := 1621) (by decide +kernel), List.mem_of_getElem? (i := 1622) (by decide +kernel)⟩
theorem lw_p71 : lw_okq (⟨"UphillCartsModel", "lawLine", "()V"⟩, 76) := ⟨⟨by decide +kernel, by decide +kernel⟩, List.mem_of_getElem? (i := 1293) (by decide +kernel), List.mem_of_getElem? (i := 1625) (by decide +kernel), List.mem_of_getElem? (i := 1626) (by decide +kernel)⟩
theorem lw_p72 : lw_okq (⟨"UphillCartsModel", "expression", "()V"⟩, 76) := ⟨⟨by decide +kernel, by decide +kernel⟩, List.mem_of_getElem? (i := 1293) (by decide +kernel), List.mem_of_getElem? (i := 1629) (by decide +kernel), List.mem_of_getElem? (i := 1630) (by decide +kernel)⟩
theorem lw_p73 : lw_okq (⟨"UphillCartsModel", "conjunction", "()V"⟩, 76) := ⟨⟨by decide +kernel, by decide +kernel⟩, List.mem_of_getElem? (i := 1293) (by decide +kernel), List.mem_of_getElem? (i := 1633) (by decide +kernel), List.mem_of_getElem? (i := 1634) (by decide +kernel)⟩
theorem lw_p74 : lw_okq (⟨"UphillCartsModel", "negation", "()V"⟩, 76) := ⟨⟨by decide +kernel, by decide +kernel⟩, List.mem_of_getElem? (i := 1293) (by decide +kernel), List.mem_of_getElem? (i := 1637) (by decide +kernel), List.mem_of_getElem? (i := 1638) (by decide +kernel)⟩
theorem lw_p75 : lw_okq (⟨"UphillCartsModel", "knot", "()V"⟩, 76) := ⟨⟨by decide +kernel, by decide +kernel⟩, List.mem_of_getElem? (i := 1293) (by decide +kernel), List.mem_of_getElem? (i := 1641) (by decide +kernel), List.mem_of_getElem? (i := 1642) (by decide +kernel)⟩
theorem lw_p76 : lw_okq (⟨"UphillCartsModel", "puts", "(II)V"⟩, 76) := ⟨⟨by decide +kernel, by decide +kernel⟩, List.mem_of_getElem? (i := 1293) (by decide +kernel), List.mem_of_getElem? (i := 1645) (by decide +kernel), List.mem_of_getElem? (i := 1646) (by decide +kernel)⟩
theorem lw_p77 : lw_okq (⟨"UphillCartsModel", "sum", "()V"⟩, 76) := ⟨⟨by decide +kernel, by decide +kernel⟩, List.mem_of_getElem? (i := 1293) (by decide +kernel), List.mem_of_getElem? (i := 1649) (by decide +kernel), List.mem_of_getElem? (i := 1650) (by decide +kernel)⟩
theorem lw_p78 : lw_okq (⟨"UphillCartsModel", "product", "()V"⟩, 76) := ⟨⟨by decide +kernel, by decide +kernel⟩, List.mem_of_getElem? (i := 1293) (by decide +kernel), List.mem_of_getElem? (i := 1653) (by decide +kernel), List.mem_of_getElem? (i := 1654) (by decide +kernel)⟩
theorem lw_p79 : lw_okq (⟨"UphillCartsModel", "primary", "()V"⟩, 76) := ⟨⟨by decide +kernel, by decide +kernel⟩, List.mem_of_getElem? (i := 1293) (by decide +kernel), List.mem_of_getElem? (i := 1657) (by decide +kernel), List.mem_of_getElem? (i := 1658) (by decide +kernel)⟩
def lw_privs_5 : List (MethodName × Nat) := [(⟨"UphillCartsModel", "fresh", "([III)I"⟩, 76), (⟨"UphillCartsModel", "numeral", "(II)I"⟩, 76), (⟨"UphillCartsModel", "isWord", "(I)Z"⟩, 76), (⟨"UphillCartsModel", "isSign", "(I)Z"⟩, 76), (⟨"UphillCartsModel", "bendAtHand", "(I)I"⟩, 76), (⟨"UphillCartsModel", "goOn", "()V"⟩, 76), (⟨"UphillCartsModel", "warmLine", "()V"⟩, 76), (⟨"UphillCartsModel", "lawLine", "()V"⟩, 76), (⟨"UphillCartsModel", "expression", "()V"⟩, 76), (⟨"UphillCartsModel", "conjunction", "()V"⟩, 76), (⟨"UphillCartsModel", "negation", "()V"⟩, 76), (⟨"UphillCartsModel", "knot", "()V"⟩, 76), (⟨"UphillCartsModel", "puts", "(II)V"⟩, 76), (⟨"UphillCartsModel", "sum", "()V"⟩, 76), (⟨"UphillCartsModel", "product", "()V"⟩, 76), (⟨"UphillCartsModel", "primary", "()V"⟩, 76)]
theorem lw_r5 : ∀ q ∈ lw_privs_5, lw_okq q := List.forall_mem_cons.mpr ⟨lw_p64, List.forall_mem_cons.mpr ⟨lw_p65, List.forall_mem_cons.mpr ⟨lw_p66, List.forall_mem_cons.mpr ⟨lw_p67, List.forall_mem_cons.mpr ⟨lw_p68, List.forall_mem_cons.mpr ⟨lw_p69, List.forall_mem_cons.mpr ⟨lw_p70, List.forall_mem_cons.mpr ⟨lw_p71, List.forall_mem_cons.mpr ⟨lw_p72, List.forall_mem_cons.mpr ⟨lw_p73, List.forall_mem_cons.mpr ⟨lw_p74, List.forall_mem_cons.mpr ⟨lw_p75, List.forall_mem_cons.mpr ⟨lw_p76, List.forall_mem_cons.mpr ⟨lw_p77, List.forall_mem_cons.mpr ⟨lw_p78, List.forall_mem_cons.mpr ⟨lw_p79, fun _ h => absurd h List.not_mem_nil⟩⟩⟩⟩⟩⟩⟩⟩⟩⟩⟩⟩⟩⟩⟩⟩
theorem lw_p80 : lw_okq (⟨"UphillCartsModel", "isBend", "(I)Z"⟩, 76) := ⟨⟨by decide +kernel, by decide +kernel⟩, List.mem_of_getElem? (i := 1293) (by decide +kernel), List.mem_of_getElem? (i := 1676) (by decide +kernel), List.mem_of_getElem? (i := 1677) (by decide +kernel)⟩
theorem lw_p81 : lw_okq (⟨"UphillCartsModel", "slopeTo", "(I)I"⟩, 76) := ⟨⟨by decide +kernel, by decide +kernel⟩, List.mem_of_getElem? (i := 1293) (by decide +kernel), List.mem_of_getElem? (i := 1680) (by decide +kernel), List.mem_of_getElem? (i := 1681) (by decide +kernel)⟩
theorem lw_p82 : lw_okq (⟨"UphillCartsModel", "isGoods", "(I)Z"⟩, 76) := ⟨⟨by decide +kernel, by decide +kernel⟩, List.mem_of_getElem? (i := 1293) (by decide +kernel), List.mem_of_getElem? (i := 1689) (by decide +kernel), List.mem_of_getElem? (i := 1690) (by decide +kernel)⟩
theorem lw_p83 : lw_okq (⟨"UphillCartsModel", "isSort", "(I)Z"⟩, 76) := ⟨⟨by decide +kernel, by decide +kernel⟩, List.mem_of_getElem? (i := 1293) (by decide +kernel), List.mem_of_getElem? (i := 1697) (by decide +kernel), List.mem_of_getElem? (i := 1698) (by decide +kernel)⟩
theorem lw_p84 : lw_okq (⟨"UphillCartsModel", "liftOf", "(III)I"⟩, 76) := ⟨⟨by decide +kernel, by decide +kernel⟩, List.mem_of_getElem? (i := 1293) (by decide +kernel), List.mem_of_getElem? (i := 1708) (by decide +kernel), List.mem_of_getElem? (i := 1709) (by decide +kernel)⟩
theorem lw_p85 : lw_okq (⟨"UphillCartsModel", "calls", "(III)V"⟩, 76) := ⟨⟨by decide +kernel, by decide +kernel⟩, List.mem_of_getElem? (i := 1293) (by decide +kernel), List.mem_of_getElem? (i := 1712) (by decide +kernel), List.mem_of_getElem? (i := 1713) (by decide +kernel)⟩
theorem lw_p86 : lw_okq (⟨"UphillCartsModel", "within", "(III)I"⟩, 76) := ⟨⟨by decide +kernel, by decide +kernel⟩, List.mem_of_getElem? (i := 1293) (by decide +kernel), List.mem_of_getElem? (i := 1718) (by decide +kernel), List.mem_of_getElem? (i := 1719) (by decide +kernel)⟩
theorem lw_p87 : lw_okq (⟨"UphillCartsModel", "hasLaw", "(I)Z"⟩, 76) := ⟨⟨by decide +kernel, by decide +kernel⟩, List.mem_of_getElem? (i := 1293) (by decide +kernel), List.mem_of_getElem? (i := 1722) (by decide +kernel), List.mem_of_getElem? (i := 1723) (by decide +kernel)⟩
theorem lw_p88 : lw_okq (⟨"UphillCartsModel", "goes", "(I)Z"⟩, 76) := ⟨⟨by decide +kernel, by decide +kernel⟩, List.mem_of_getElem? (i := 1293) (by decide +kernel), List.mem_of_getElem? (i := 1726) (by decide +kernel), List.mem_of_getElem? (i := 1727) (by decide +kernel)⟩
theorem lw_p89 : lw_okq (⟨"UphillCartsModel", "works", "(I)Z"⟩, 76) := ⟨⟨by decide +kernel, by decide +kernel⟩, List.mem_of_getElem? (i := 1293) (by decide +kernel), List.mem_of_getElem? (i := 1730) (by decide +kernel), List.mem_of_getElem? (i := 1731) (by decide +kernel)⟩
theorem lw_p90 : lw_okq (⟨"UphillCartsModel", "pullOf", "(II)I"⟩, 76) := ⟨⟨by decide +kernel, by decide +kernel⟩, List.mem_of_getElem? (i := 1293) (by decide +kernel), List.mem_of_getElem? (i := 1748) (by decide +kernel), List.mem_of_getElem? (i := 1749) (by decide +kernel)⟩
theorem lw_p91 : lw_okq (⟨"UphillCartsModel", "strong", "()I"⟩, 76) := ⟨⟨by decide +kernel, by decide +kernel⟩, List.mem_of_getElem? (i := 1293) (by decide +kernel), List.mem_of_getElem? (i := 1752) (by decide +kernel), List.mem_of_getElem? (i := 1753) (by decide +kernel)⟩
theorem lw_p92 : lw_okq (⟨"UphillCartsModel", "layLaws", "()V"⟩, 76) := ⟨⟨by decide +kernel, by decide +kernel⟩, List.mem_of_getElem? (i := 1293) (by decide +kernel), List.mem_of_getElem? (i := 1761) (by decide +kernel), List.mem_of_getElem? (i := 1762) (by decide +kernel)⟩
theorem lw_p93 : lw_okq (⟨"UphillCartsModel", "netOf", "(IIIII)I"⟩, 76) := ⟨⟨by decide +kernel, by decide +kernel⟩, List.mem_of_getElem? (i := 1293) (by decide +kernel), List.mem_of_getElem? (i := 1765) (by decide +kernel), List.mem_of_getElem? (i := 1766) (by decide +kernel)⟩
theorem lw_p94 : lw_okq (⟨"UphillCartsModel", "isBelow", "()Z"⟩, 76) := ⟨⟨by decide +kernel, by decide +kernel⟩, List.mem_of_getElem? (i := 1293) (by decide +kernel), List.mem_of_getElem? (i := 1778) (by decide +kernel), List.mem_of_getElem? (i := 1779) (by decide +kernel)⟩
theorem lw_p95 : lw_okq (⟨"UphillCartsModel", "keepNow", "()V"⟩, 76) := ⟨⟨by decide +kernel, by decide +kernel⟩, List.mem_of_getElem? (i := 1293) (by decide +kernel), List.mem_of_getElem? (i := 1782) (by decide +kernel), List.mem_of_getElem? (i := 1783) (by decide +kernel)⟩
def lw_privs_6 : List (MethodName × Nat) := [(⟨"UphillCartsModel", "isBend", "(I)Z"⟩, 76), (⟨"UphillCartsModel", "slopeTo", "(I)I"⟩, 76), (⟨"UphillCartsModel", "isGoods", "(I)Z"⟩, 76), (⟨"UphillCartsModel", "isSort", "(I)Z"⟩, 76), (⟨"UphillCartsModel", "liftOf", "(III)I"⟩, 76), (⟨"UphillCartsModel", "calls", "(III)V"⟩, 76), (⟨"UphillCartsModel", "within", "(III)I"⟩, 76), (⟨"UphillCartsModel", "hasLaw", "(I)Z"⟩, 76), (⟨"UphillCartsModel", "goes", "(I)Z"⟩, 76), (⟨"UphillCartsModel", "works", "(I)Z"⟩, 76), (⟨"UphillCartsModel", "pullOf", "(II)I"⟩, 76), (⟨"UphillCartsModel", "strong", "()I"⟩, 76), (⟨"UphillCartsModel", "layLaws", "()V"⟩, 76), (⟨"UphillCartsModel", "netOf", "(IIIII)I"⟩, 76), (⟨"UphillCartsModel", "isBelow", "()Z"⟩, 76), (⟨"UphillCartsModel", "keepNow", "()V"⟩, 76)]
theorem lw_r6 : ∀ q ∈ lw_privs_6, lw_okq q := List.forall_mem_cons.mpr ⟨lw_p80, List.forall_mem_cons.mpr ⟨lw_p81, List.forall_mem_cons.mpr ⟨lw_p82, List.forall_mem_cons.mpr ⟨lw_p83, List.forall_mem_cons.mpr ⟨lw_p84, List.forall_mem_cons.mpr ⟨lw_p85, List.forall_mem_cons.mpr ⟨lw_p86, List.forall_mem_cons.mpr ⟨lw_p87, List.forall_mem_cons.mpr ⟨lw_p88, List.forall_mem_cons.mpr ⟨lw_p89, List.forall_mem_cons.mpr ⟨lw_p90, List.forall_mem_cons.mpr ⟨lw_p91, List.forall_mem_cons.mpr ⟨lw_p92, List.forall_mem_cons.mpr ⟨lw_p93, List.forall_mem_cons.mpr ⟨lw_p94, List.forall_mem_cons.mpr ⟨lw_p95, fun _ h => absurd h List.not_mem_nil⟩⟩⟩⟩⟩⟩⟩⟩⟩⟩⟩⟩⟩⟩⟩⟩
theorem lw_p96 : lw_okq (⟨"UphillCartsModel", "copies", "(II)V"⟩, 76) := ⟨⟨by decide +kernel, by decide +kernel⟩, List.mem_of_getElem? (i := 1293) (by decide +kernel), List.mem_of_getElem? (i := 1786) (by decide +kernel), List.mem_of_getElem? (i := 1787) (by decide +kernel)⟩
theorem lw_p97 : lw_okq (⟨"UphillCartsModel", "passes", "(I)V"⟩, 76) := ⟨⟨by decide +kernel, by decide +kernel⟩, List.mem_of_getElem? (i := 1293) (by decide +kernel), List.mem_of_getElem? (i := 1806) (by decide +kernel), List.mem_of_getElem? (i := 1807) (by decide +kernel)⟩
theorem lw_p98 : lw_okq (⟨"UphillCartsModel", "netAt", "(III)I"⟩, 76) := ⟨⟨by decide +kernel, by decide +kernel⟩, List.mem_of_getElem? (i := 1293) (by decide +kernel), List.mem_of_getElem? (i := 1810) (by decide +kernel), List.mem_of_getElem? (i := 1811) (by decide +kernel)⟩
theorem lw_p99 : lw_okq (⟨"UphillCartsModel", "draw", "(I)I"⟩, 76) := ⟨⟨by decide +kernel, by decide +kernel⟩, List.mem_of_getElem? (i := 1293) (by decide +kernel), List.mem_of_getElem? (i := 1814) (by decide +kernel), List.mem_of_getElem? (i := 1815) (by decide +kernel)⟩
theorem lw_p100 : lw_okq (⟨"UphillCartsModel", "cuts", "(I)V"⟩, 76) := ⟨⟨by decide +kernel, by decide +kernel⟩, List.mem_of_getElem? (i := 1293) (by decide +kernel), List.mem_of_getElem? (i := 1820) (by decide +kernel), List.mem_of_getElem? (i := 1821) (by decide +kernel)⟩
theorem lw_p101 : lw_okq (⟨"UphillCartsModel", "isFrom", "(I)Z"⟩, 76) := ⟨⟨by decide +kernel, by decide +kernel⟩, List.mem_of_getElem? (i := 1293) (by decide +kernel), List.mem_of_getElem? (i := 1832) (by decide +kernel), List.mem_of_getElem? (i := 1833) (by decide +kernel)⟩
theorem lw_p102 : lw_okq (⟨"UphillCartsModel", "wayNow", "(I)I"⟩, 76) := ⟨⟨by decide +kernel, by decide +kernel⟩, List.mem_of_getElem? (i := 1293) (by decide +kernel), List.mem_of_getElem? (i := 1836) (by decide +kernel), List.mem_of_getElem? (i := 1837) (by decide +kernel)⟩
theorem lw_p103 : lw_okq (⟨"UphillCartsModel", "way", "(IIIII)I"⟩, 76) := ⟨⟨by decide +kernel, by decide +kernel⟩, List.mem_of_getElem? (i := 1293) (by decide +kernel), List.mem_of_getElem? (i := 1840) (by decide +kernel), List.mem_of_getElem? (i := 1841) (by decide +kernel)⟩
theorem lw_p104 : lw_okq (⟨"UphillCartsModel", "whenUp", "()I"⟩, 76) := ⟨⟨by decide +kernel, by decide +kernel⟩, List.mem_of_getElem? (i := 1293) (by decide +kernel), List.mem_of_getElem? (i := 1848) (by decide +kernel), List.mem_of_getElem? (i := 1849) (by decide +kernel)⟩
theorem lw_p105 : lw_okq (⟨"UphillCartsModel", "layMost", "(I)V"⟩, 76) := ⟨⟨by decide +kernel, by decide +kernel⟩, List.mem_of_getElem? (i := 1293) (by decide +kernel), List.mem_of_getElem? (i := 1860) (by decide +kernel), List.mem_of_getElem? (i := 1861) (by decide +kernel)⟩
theorem lw_p106 : lw_okq (⟨"UphillCartsModel", "gainOf", "(I)I"⟩, 76) := ⟨⟨by decide +kernel, by decide +kernel⟩, List.mem_of_getElem? (i := 1293) (by decide +kernel), List.mem_of_getElem? (i := 1864) (by decide +kernel), List.mem_of_getElem? (i := 1865) (by decide +kernel)⟩
theorem lw_p107 : lw_okq (⟨"UphillCartsModel", "poundsOf", "(I)I"⟩, 76) := ⟨⟨by decide +kernel, by decide +kernel⟩, List.mem_of_getElem? (i := 1293) (by decide +kernel), List.mem_of_getElem? (i := 1868) (by decide +kernel), List.mem_of_getElem? (i := 1869) (by decide +kernel)⟩
theorem lw_p108 : lw_okq (⟨"UphillCartsModel", "areBags", "(I)Z"⟩, 76) := ⟨⟨by decide +kernel, by decide +kernel⟩, List.mem_of_getElem? (i := 1293) (by decide +kernel), List.mem_of_getElem? (i := 1872) (by decide +kernel), List.mem_of_getElem? (i := 1873) (by decide +kernel)⟩
theorem lw_p109 : lw_okq (⟨"UphillCartsModel", "layBallast", "(I)V"⟩, 76) := ⟨⟨by decide +kernel, by decide +kernel⟩, List.mem_of_getElem? (i := 1293) (by decide +kernel), List.mem_of_getElem? (i := 1884) (by decide +kernel), List.mem_of_getElem? (i := 1885) (by decide +kernel)⟩
theorem lw_p110 : lw_okq (⟨"UphillCartsModel", "changesBy", "(IIII)I"⟩, 76) := ⟨⟨by decide +kernel, by decide +kernel⟩, List.mem_of_getElem? (i := 1293) (by decide +kernel), List.mem_of_getElem? (i := 1888) (by decide +kernel), List.mem_of_getElem? (i := 1889) (by decide +kernel)⟩
theorem lw_p111 : lw_okq (⟨"UphillCartsModel", "comesOn", "(III)Z"⟩, 76) := ⟨⟨by decide +kernel, by decide +kernel⟩, List.mem_of_getElem? (i := 1293) (by decide +kernel), List.mem_of_getElem? (i := 1892) (by decide +kernel), List.mem_of_getElem? (i := 1893) (by decide +kernel)⟩
def lw_privs_7 : List (MethodName × Nat) := [(⟨"UphillCartsModel", "copies", "(II)V"⟩, 76), (⟨"UphillCartsModel", "passes", "(I)V"⟩, 76), (⟨"UphillCartsModel", "netAt", "(III)I"⟩, 76), (⟨"UphillCartsModel", "draw", "(I)I"⟩, 76), (⟨"UphillCartsModel", "cuts", "(I)V"⟩, 76), (⟨"UphillCartsModel", "isFrom", "(I)Z"⟩, 76), (⟨"UphillCartsModel", "wayNow", "(I)I"⟩, 76), (⟨"UphillCartsModel", "way", "(IIIII)I"⟩, 76), (⟨"UphillCartsModel", "whenUp", "()I"⟩, 76), (⟨"UphillCartsModel", "layMost", "(I)V"⟩, 76), (⟨"UphillCartsModel", "gainOf", "(I)I"⟩, 76), (⟨"UphillCartsModel", "poundsOf", "(I)I"⟩, 76), (⟨"UphillCartsModel", "areBags", "(I)Z"⟩, 76), (⟨"UphillCartsModel", "layBallast", "(I)V"⟩, 76), (⟨"UphillCartsModel", "changesBy", "(IIII)I"⟩, 76), (⟨"UphillCartsModel", "comesOn", "(III)Z"⟩, 76)]
theorem lw_r7 : ∀ q ∈ lw_privs_7, lw_okq q := List.forall_mem_cons.mpr ⟨lw_p96, List.forall_mem_cons.mpr ⟨lw_p97, List.forall_mem_cons.mpr ⟨lw_p98, List.forall_mem_cons.mpr ⟨lw_p99, List.forall_mem_cons.mpr ⟨lw_p100, List.forall_mem_cons.mpr ⟨lw_p101, List.forall_mem_cons.mpr ⟨lw_p102, List.forall_mem_cons.mpr ⟨lw_p103, List.forall_mem_cons.mpr ⟨lw_p104, List.forall_mem_cons.mpr ⟨lw_p105, List.forall_mem_cons.mpr ⟨lw_p106, List.forall_mem_cons.mpr ⟨lw_p107, List.forall_mem_cons.mpr ⟨lw_p108, List.forall_mem_cons.mpr ⟨lw_p109, List.forall_mem_cons.mpr ⟨lw_p110, List.forall_mem_cons.mpr ⟨lw_p111, fun _ h => absurd h List.not_mem_nil⟩⟩⟩⟩⟩⟩⟩⟩⟩⟩⟩⟩⟩⟩⟩⟩
theorem lw_p112 : lw_okq (⟨"UphillCartsModel", "isHeld", "(III)Z"⟩, 76) := ⟨⟨by decide +kernel, by decide +kernel⟩, List.mem_of_getElem? (i := 1293) (by decide +kernel), List.mem_of_getElem? (i := 1896) (by decide +kernel), List.mem_of_getElem? (i := 1897) (by decide +kernel)⟩
theorem lw_p113 : lw_okq (⟨"UphillCartsModel", "isMeet", "(II)Z"⟩, 76) := ⟨⟨by decide +kernel, by decide +kernel⟩, List.mem_of_getElem? (i := 1293) (by decide +kernel), List.mem_of_getElem? (i := 1913) (by decide +kernel), List.mem_of_getElem? (i := 1914) (by decide +kernel)⟩
theorem lw_p114 : lw_okq (⟨"UphillCartsModel", "meetOf", "(II)I"⟩, 76) := ⟨⟨by decide +kernel, by decide +kernel⟩, List.mem_of_getElem? (i := 1293) (by decide +kernel), List.mem_of_getElem? (i := 1917) (by decide +kernel), List.mem_of_getElem? (i := 1918) (by decide +kernel)⟩
theorem lw_p115 : lw_okq (⟨"UphillCartsModel", "layFits", "(I)V"⟩, 76) := ⟨⟨by decide +kernel, by decide +kernel⟩, List.mem_of_getElem? (i := 1293) (by decide +kernel), List.mem_of_getElem? (i := 1949) (by decide +kernel), List.mem_of_getElem? (i := 1950) (by decide +kernel)⟩
theorem lw_p116 : lw_okq (⟨"UphillCartsModel", "knownMany", "()I"⟩, 76) := ⟨⟨by decide +kernel, by decide +kernel⟩, List.mem_of_getElem? (i := 1293) (by decide +kernel), List.mem_of_getElem? (i := 1953) (by decide +kernel), List.mem_of_getElem? (i := 1954) (by decide +kernel)⟩
theorem lw_p117 : lw_okq (⟨"UphillCartsModel", "fitsBy", "(III)Z"⟩, 76) := ⟨⟨by decide +kernel, by decide +kernel⟩, List.mem_of_getElem? (i := 1293) (by decide +kernel), List.mem_of_getElem? (i := 1957) (by decide +kernel), List.mem_of_getElem? (i := 1958) (by decide +kernel)⟩
theorem lw_p118 : lw_okq (⟨"UphillCartsModel", "oneFits", "(III)V"⟩, 76) := ⟨⟨by decide +kernel, by decide +kernel⟩, List.mem_of_getElem? (i := 1293) (by decide +kernel), List.mem_of_getElem? (i := 1961) (by decide +kernel), List.mem_of_getElem? (i := 1962) (by decide +kernel)⟩
def lw_privs_8 : List (MethodName × Nat) := [(⟨"UphillCartsModel", "isHeld", "(III)Z"⟩, 76), (⟨"UphillCartsModel", "isMeet", "(II)Z"⟩, 76), (⟨"UphillCartsModel", "meetOf", "(II)I"⟩, 76), (⟨"UphillCartsModel", "layFits", "(I)V"⟩, 76), (⟨"UphillCartsModel", "knownMany", "()I"⟩, 76), (⟨"UphillCartsModel", "fitsBy", "(III)Z"⟩, 76), (⟨"UphillCartsModel", "oneFits", "(III)V"⟩, 76)]
theorem lw_r8 : ∀ q ∈ lw_privs_8, lw_okq q := List.forall_mem_cons.mpr ⟨lw_p112, List.forall_mem_cons.mpr ⟨lw_p113, List.forall_mem_cons.mpr ⟨lw_p114, List.forall_mem_cons.mpr ⟨lw_p115, List.forall_mem_cons.mpr ⟨lw_p116, List.forall_mem_cons.mpr ⟨lw_p117, List.forall_mem_cons.mpr ⟨lw_p118, fun _ h => absurd h List.not_mem_nil⟩⟩⟩⟩⟩⟩⟩
def lw_privs : List (MethodName × Nat) := lw_privs_1 ++ (lw_privs_2 ++ (lw_privs_3 ++ (lw_privs_4 ++ (lw_privs_5 ++ (lw_privs_6 ++ (lw_privs_7 ++ (lw_privs_8)))))))
def lw_tbl : List Cond := k2_sels lw_privs ++ tables_1
theorem lw_privs_ok : ∀ q ∈ lw_privs, lw_okq q := by
  show ∀ q ∈ lw_privs_1 ++ (lw_privs_2 ++ (lw_privs_3 ++ (lw_privs_4 ++ (lw_privs_5 ++ (lw_privs_6 ++ (lw_privs_7 ++ (lw_privs_8))))))), lw_okq q
  exact List.forall_mem_append.mpr ⟨lw_r1, List.forall_mem_append.mpr ⟨lw_r2, List.forall_mem_append.mpr ⟨lw_r3, List.forall_mem_append.mpr ⟨lw_r4, List.forall_mem_append.mpr ⟨lw_r5, List.forall_mem_append.mpr ⟨lw_r6, List.forall_mem_append.mpr ⟨lw_r7, lw_r8⟩⟩⟩⟩⟩⟩⟩
theorem goodIn_r {big : List Cond} (ws : List Cond) (ps : List Nat) (hp : ws = ps.filterMap (fun i => big[i]?)) (h : ws.all goodWord = true) : GoodIn big ws := by
  intro w hw
  have h1 := List.all_eq_true.mp h w hw
  rw [hp] at hw
  obtain ⟨i, -, hi⟩ := List.mem_filterMap.mp hw
  have hm : w ∈ big := by first | exact List.mem_of_getElem? hi | exact List.getElem?_mem hi
  exact ⟨hm, good_of_word h1⟩
theorem goodIn_app {big a b : List Cond} (ha : GoodIn big a) (hb : GoodIn big b) : GoodIn big (a ++ b) := fun w h => (List.mem_append.mp h).elim (ha w) (hb w)
theorem goodIn_ca {big a b : List Cond} {c : Cond} (ha : GoodIn big (c :: a)) (hb : GoodIn big b) : GoodIn big (c :: (a ++ b)) := fun w h => (List.mem_cons.mp h).elim (fun e => ha w (List.mem_cons.mpr (Or.inl e))) (fun h => (List.mem_append.mp h).elim (fun h => ha w (List.mem_cons.mpr (Or.inr h))) (hb w))
theorem goodIn_sub {big ws : List Cond} (hm : ∀ w ∈ ws, w ∈ big) (h : ws.all goodWord = true) : GoodIn big ws := fun w hw => ⟨hm w hw, good_of_word (List.all_eq_true.mp h w hw)⟩

def RX0 : String := "UphillCarts$Ballast"
def TX0 : u_T := fun k => match k with
  | 0 => ("UphillCarts$Ballast", "fewest", "[I", true)
  | 1 => ("UphillCarts$Ballast", "least", "[I", true)
  | 2 => ("UphillCarts$Ballast", "greatest", "[I", true)
  | _ => ("UphillCarts$Ballast", "behind", "[I", true)
def tyX0 : Nat → FieldType := fun k => match k with
  | 0 => .array .int
  | 1 => .array .int
  | 2 => .array .int
  | _ => .array .int
abbrev wsX00 : List Cond := u_ws RX0 TX0 4
theorem nmX0 : ∀ a, a < 4 → ∀ b, b < 4 → a ≠ b → (TX0 a).2.1 ≠ (TX0 b).2.1 := by decide +kernel
theorem tyX0_ok : ∀ k, k < 4 → parseFieldDescriptor (TX0 k).2.2.1 = some (tyX0 k) := by decide +kernel
abbrev cX0_init : ByteArray := prog_2_method_1_code
def yX0_init : MethodName := ⟨RX0, "<init>", "()V"⟩
abbrev cX0_plan : ByteArray := prog_2_method_2_code
def yX0_plan : MethodName := ⟨RX0, "plan", "(LUphillCarts$Road;LUphillCarts$Forces;LUphillCarts$Cart;I)I"⟩
abbrev cX0_mostBehind : ByteArray := prog_2_method_3_code
def yX0_mostBehind : MethodName := ⟨RX0, "mostBehind", "(LUphillCarts$Cart;II)I"⟩
abbrev cX0_costOf : ByteArray := prog_2_method_4_code
def yX0_costOf : MethodName := ⟨RX0, "costOf", "(III)I"⟩
abbrev cX0_choose : ByteArray := prog_2_method_5_code
def yX0_choose : MethodName := ⟨RX0, "choose", "(IIIII)I"⟩
abbrev cX0_follow : ByteArray := prog_2_method_6_code
def yX0_follow : MethodName := ⟨RX0, "follow", "(LUphillCarts$Road;LUphillCarts$Cart;I)I"⟩
def RX1 : String := "UphillCarts$Bend"
def TX1 : u_T := fun k => match k with
  | 0 => ("UphillCarts$Bend", "name", "I", false)
  | 1 => ("UphillCarts$Bend", "height", "I", false)
  | 2 => ("UphillCarts$Bend", "wide", "Z", false)
  | 3 => ("UphillCarts$Bend", "wind", "I", false)
  | 4 => ("UphillCarts$Bend", "depot", "I", false)
  | _ => ("UphillCarts$Bend", "thief", "I", false)
def tyX1 : Nat → FieldType := fun k => match k with
  | 0 => .int
  | 1 => .int
  | 2 => .boolean
  | 3 => .int
  | 4 => .int
  | _ => .int
abbrev wsX10 : List Cond := u_ws RX1 TX1 6
theorem nmX1 : ∀ a, a < 6 → ∀ b, b < 6 → a ≠ b → (TX1 a).2.1 ≠ (TX1 b).2.1 := by decide +kernel
theorem tyX1_ok : ∀ k, k < 6 → parseFieldDescriptor (TX1 k).2.2.1 = some (tyX1 k) := by decide +kernel
abbrev cX1_init : ByteArray := prog_3_method_1_code
def yX1_init : MethodName := ⟨RX1, "<init>", "()V"⟩
def RX2 : String := "UphillCarts$Cart"
def TX2 : u_T := fun k => match k with
  | 0 => ("UphillCarts$Cart", "depots", "[I", true)
  | 1 => ("UphillCarts$Cart", "goods", "I", false)
  | 2 => ("UphillCarts$Cart", "bags", "I", false)
  | 3 => ("UphillCarts$Cart", "stones", "I", false)
  | 4 => ("UphillCarts$Cart", "bend", "I", false)
  | 5 => ("UphillCarts$Cart", "hour", "I", false)
  | 6 => ("UphillCarts$Cart", "state", "I", false)
  | _ => ("UphillCarts$Cart", "number", "J", false)
def tyX2 : Nat → FieldType := fun k => match k with
  | 0 => .array .int
  | 1 => .int
  | 2 => .int
  | 3 => .int
  | 4 => .int
  | 5 => .int
  | 6 => .int
  | _ => .long
abbrev wsX20 : List Cond := u_ws RX2 TX2 8
theorem nmX2 : ∀ a, a < 8 → ∀ b, b < 8 → a ≠ b → (TX2 a).2.1 ≠ (TX2 b).2.1 := by decide +kernel
theorem tyX2_ok : ∀ k, k < 8 → parseFieldDescriptor (TX2 k).2.2.1 = some (tyX2 k) := by decide +kernel
abbrev cX2_init : ByteArray := prog_4_method_1_code
def yX2_init : MethodName := ⟨RX2, "<init>", "()V"⟩
abbrev cX2_start : ByteArray := prog_4_method_2_code
def yX2_start : MethodName := ⟨RX2, "start", "(LUphillCarts$Road;)V"⟩
abbrev cX2_becomes : ByteArray := prog_4_method_3_code
def yX2_becomes : MethodName := ⟨RX2, "becomes", "(LUphillCarts$Cart;)V"⟩
abbrev cX2_weighs : ByteArray := prog_4_method_4_code
def yX2_weighs : MethodName := ⟨RX2, "weighs", "(LUphillCarts$Road;)I"⟩
abbrev cX2_stonesAtDepots : ByteArray := prog_4_method_5_code
def yX2_stonesAtDepots : MethodName := ⟨RX2, "stonesAtDepots", "()I"⟩
abbrev cX2_hourGoesBy : ByteArray := prog_4_method_6_code
def yX2_hourGoesBy : MethodName := ⟨RX2, "hourGoesBy", "(LUphillCarts$Road;LUphillCarts$Forces;)V"⟩
abbrev cX2_meetThief : ByteArray := prog_4_method_7_code
def yX2_meetThief : MethodName := ⟨RX2, "meetThief", "(I)V"⟩
def RX3 : String := "UphillCarts$Forces"
def TX3 : u_T := fun k => match k with
  | 0 => ("UphillCarts$Forces", "lifts", "[I", true)
  | 1 => ("UphillCarts$Forces", "pulls", "[I", true)
  | 2 => ("UphillCarts$Forces", "names", "[J", true)
  | 3 => ("UphillCarts$Forces", "values", "[J", true)
  | 4 => ("UphillCarts$Forces", "road", "LUphillCarts$Road;", false)
  | 5 => ("UphillCarts$Forces", "warm", "Z", false)
  | 6 => ("UphillCarts$Forces", "calm", "Z", false)
  | _ => ("UphillCarts$Forces", "times", "I", false)
def tyX3 : Nat → FieldType := fun k => match k with
  | 0 => .array .int
  | 1 => .array .int
  | 2 => .array .long
  | 3 => .array .long
  | 4 => .object "UphillCarts$Road"
  | 5 => .boolean
  | 6 => .boolean
  | _ => .int
abbrev wsX30 : List Cond := u_ws RX3 TX3 8
theorem nmX3 : ∀ a, a < 8 → ∀ b, b < 8 → a ≠ b → (TX3 a).2.1 ≠ (TX3 b).2.1 := by decide +kernel
theorem tyX3_ok : ∀ k, k < 8 → parseFieldDescriptor (TX3 k).2.2.1 = some (tyX3 k) := by decide +kernel
abbrev cX3_init : ByteArray := prog_5_method_1_code
def yX3_init : MethodName := ⟨RX3, "<init>", "(LUphillCarts$Road;)V"⟩
abbrev cX3_ofRoad : ByteArray := prog_5_method_2_code
def yX3_ofRoad : MethodName := ⟨RX3, "ofRoad", "(LUphillCarts$Road;ZZI)V"⟩
abbrev cX3_worked : ByteArray := prog_5_method_3_code
def yX3_worked : MethodName := ⟨RX3, "worked", "(LUphillCarts$Law;III)J"⟩
abbrev cX3_lifted : ByteArray := prog_5_method_4_code
def yX3_lifted : MethodName := ⟨RX3, "lifted", "(III)I"⟩
abbrev cX3_pulled : ByteArray := prog_5_method_5_code
def yX3_pulled : MethodName := ⟨RX3, "pulled", "(II)I"⟩
abbrev cX3_bagsLift : ByteArray := prog_5_method_6_code
def yX3_bagsLift : MethodName := ⟨RX3, "bagsLift", "(III)I"⟩
abbrev cX3_wayFrom : ByteArray := prog_5_method_7_code
def yX3_wayFrom : MethodName := ⟨RX3, "wayFrom", "(III)I"⟩
def RX4 : String := "UphillCarts$Goods"
def TX4 : u_T := fun k => match k with
  | 0 => ("UphillCarts$Goods", "name", "I", false)
  | 1 => ("UphillCarts$Goods", "weight", "I", false)
  | 2 => ("UphillCarts$Goods", "below", "I", false)
  | _ => ("UphillCarts$Goods", "above", "I", false)
def tyX4 : Nat → FieldType := fun k => match k with
  | 0 => .int
  | 1 => .int
  | 2 => .int
  | _ => .int
abbrev wsX40 : List Cond := u_ws RX4 TX4 4
theorem nmX4 : ∀ a, a < 4 → ∀ b, b < 4 → a ≠ b → (TX4 a).2.1 ≠ (TX4 b).2.1 := by decide +kernel
theorem tyX4_ok : ∀ k, k < 4 → parseFieldDescriptor (TX4 k).2.2.1 = some (tyX4 k) := by decide +kernel
abbrev cX4_init : ByteArray := prog_6_method_1_code
def yX4_init : MethodName := ⟨RX4, "<init>", "()V"⟩
abbrev cX4_gain : ByteArray := prog_6_method_2_code
def yX4_gain : MethodName := ⟨RX4, "gain", "()I"⟩
def RX5 : String := "UphillCarts$Law"
def TX5 : u_T := fun k => match k with
  | 0 => ("UphillCarts$Law", "knot", "[I", true)
  | _ => ("UphillCarts$Law", "length", "I", false)
def tyX5 : Nat → FieldType := fun k => match k with
  | 0 => .array .int
  | _ => .int
abbrev wsX50 : List Cond := u_ws RX5 TX5 2
theorem nmX5 : ∀ a, a < 2 → ∀ b, b < 2 → a ≠ b → (TX5 a).2.1 ≠ (TX5 b).2.1 := by decide +kernel
theorem tyX5_ok : ∀ k, k < 2 → parseFieldDescriptor (TX5 k).2.2.1 = some (tyX5 k) := by decide +kernel
abbrev cX5_init : ByteArray := prog_7_method_1_code
def yX5_init : MethodName := ⟨RX5, "<init>", "()V"⟩
abbrev cX5_isTold : ByteArray := prog_7_method_2_code
def yX5_isTold : MethodName := ⟨RX5, "isTold", "()Z"⟩
abbrev cX5_add : ByteArray := prog_7_method_3_code
def yX5_add : MethodName := ⟨RX5, "add", "(I)V"⟩
abbrev cX5_work : ByteArray := prog_7_method_4_code
def yX5_work : MethodName := ⟨RX5, "work", "([J[J)J"⟩
abbrev cX5_joined : ByteArray := prog_7_method_5_code
def yX5_joined : MethodName := ⟨RX5, "joined", "(IJJ)J"⟩
def RX6 : String := "UphillCarts$Loads"
def TX6 : u_T := fun k => match k with
  | 0 => ("UphillCarts$Loads", "least", "[I", true)
  | 1 => ("UphillCarts$Loads", "greatest", "[I", true)
  | 2 => ("UphillCarts$Loads", "weights", "[I", true)
  | 3 => ("UphillCarts$Loads", "road", "LUphillCarts$Road;", false)
  | 4 => ("UphillCarts$Loads", "allGoods", "I", false)
  | 5 => ("UphillCarts$Loads", "allBags", "I", false)
  | 6 => ("UphillCarts$Loads", "goods", "I", false)
  | 7 => ("UphillCarts$Loads", "bags", "I", false)
  | _ => ("UphillCarts$Loads", "stones", "I", false)
def tyX6 : Nat → FieldType := fun k => match k with
  | 0 => .array .int
  | 1 => .array .int
  | 2 => .array .int
  | 3 => .object "UphillCarts$Road"
  | 4 => .int
  | 5 => .int
  | 6 => .int
  | 7 => .int
  | _ => .int
abbrev wsX60 : List Cond := u_ws RX6 TX6 9
theorem nmX6 : ∀ a, a < 9 → ∀ b, b < 9 → a ≠ b → (TX6 a).2.1 ≠ (TX6 b).2.1 := by decide +kernel
theorem tyX6_ok : ∀ k, k < 9 → parseFieldDescriptor (TX6 k).2.2.1 = some (tyX6 k) := by decide +kernel
abbrev cX6_init : ByteArray := prog_8_method_1_code
def yX6_init : MethodName := ⟨RX6, "<init>", "(LUphillCarts$Road;)V"⟩
abbrev cX6_leaveAll : ByteArray := prog_8_method_2_code
def yX6_leaveAll : MethodName := ⟨RX6, "leaveAll", "(LUphillCarts$Road;)V"⟩
abbrev cX6_isLeft : ByteArray := prog_8_method_3_code
def yX6_isLeft : MethodName := ⟨RX6, "isLeft", "(I)Z"⟩
abbrev cX6_narrow : ByteArray := prog_8_method_4_code
def yX6_narrow : MethodName := ⟨RX6, "narrow", "(III)V"⟩
abbrev cX6_leaveThoseUp : ByteArray := prog_8_method_5_code
def yX6_leaveThoseUp : MethodName := ⟨RX6, "leaveThoseUp", "(LUphillCarts$Road;LUphillCarts$Forces;I)V"⟩
abbrev cX6_leaveThoseThatFit : ByteArray := prog_8_method_6_code
def yX6_leaveThoseThatFit : MethodName := ⟨RX6, "leaveThoseThatFit", "(LUphillCarts$Road;LUphillCarts$Forces;LUphillCarts$Seen;)V"⟩
abbrev cX6_fewestStones : ByteArray := prog_8_method_7_code
def yX6_fewestStones : MethodName := ⟨RX6, "fewestStones", "(II)I"⟩
abbrev cX6_mostStones : ByteArray := prog_8_method_8_code
def yX6_mostStones : MethodName := ⟨RX6, "mostStones", "(II)I"⟩
abbrev cX6_findBest : ByteArray := prog_8_method_9_code
def yX6_findBest : MethodName := ⟨RX6, "findBest", "()Z"⟩
abbrev cX6_priceForNone : ByteArray := prog_8_method_10_code
def yX6_priceForNone : MethodName := ⟨RX6, "priceForNone", "()I"⟩
abbrev cX6_canBeCarried : ByteArray := prog_8_method_11_code
def yX6_canBeCarried : MethodName := ⟨RX6, "canBeCarried", "(I)Z"⟩
abbrev cX6_howManyStones : ByteArray := prog_8_method_12_code
def yX6_howManyStones : MethodName := ⟨RX6, "howManyStones", "(II)I"⟩
abbrev cX6_howMany : ByteArray := prog_8_method_13_code
def yX6_howMany : MethodName := ⟨RX6, "howMany", "(I)I"⟩
abbrev cX6_findNumbered : ByteArray := prog_8_method_14_code
def yX6_findNumbered : MethodName := ⟨RX6, "findNumbered", "(I)Z"⟩
def RX7 : String := "UphillCarts$Parser"
def TX7 : u_T := fun k => match k with
  | 0 => ("UphillCarts$Parser", "tokens", "LUphillCarts$Tokens;", true)
  | 1 => ("UphillCarts$Parser", "waiting", "[I", true)
  | 2 => ("UphillCarts$Parser", "top", "I", false)
  | 3 => ("UphillCarts$Parser", "open", "I", false)
  | 4 => ("UphillCarts$Parser", "road", "LUphillCarts$Road;", false)
  | 5 => ("UphillCarts$Parser", "told", "I", false)
  | 6 => ("UphillCarts$Parser", "depotsTold", "I", false)
  | 7 => ("UphillCarts$Parser", "thievesTold", "I", false)
  | 8 => ("UphillCarts$Parser", "number", "I", false)
  | 9 => ("UphillCarts$Parser", "fault", "I", false)
  | _ => ("UphillCarts$Parser", "place", "I", false)
def tyX7 : Nat → FieldType := fun k => match k with
  | 0 => .object "UphillCarts$Tokens"
  | 1 => .array .int
  | 2 => .int
  | 3 => .int
  | 4 => .object "UphillCarts$Road"
  | 5 => .int
  | 6 => .int
  | 7 => .int
  | 8 => .int
  | 9 => .int
  | _ => .int
abbrev wsX70 : List Cond := u_ws RX7 TX7 11
theorem nmX7 : ∀ a, a < 11 → ∀ b, b < 11 → a ≠ b → (TX7 a).2.1 ≠ (TX7 b).2.1 := by decide +kernel
theorem tyX7_ok : ∀ k, k < 11 → parseFieldDescriptor (TX7 k).2.2.1 = some (tyX7 k) := by decide +kernel
abbrev cX7_init : ByteArray := prog_9_method_1_code
def yX7_init : MethodName := ⟨RX7, "<init>", "([BLUphillCarts$Road;)V"⟩
abbrev cX7_parse : ByteArray := prog_9_method_2_code
def yX7_parse : MethodName := ⟨RX7, "parse", "(LUphillCarts$Road;I)Z"⟩
abbrev cX7_fails : ByteArray := prog_9_method_3_code
def yX7_fails : MethodName := ⟨RX7, "fails", "(I)Z"⟩
abbrev cX7_readLine : ByteArray := prog_9_method_4_code
def yX7_readLine : MethodName := ⟨RX7, "readLine", "()Z"⟩
abbrev cX7_isBelow : ByteArray := prog_9_method_5_code
def yX7_isBelow : MethodName := ⟨RX7, "isBelow", "(II)Z"⟩
abbrev cX7_isToldOnce : ByteArray := prog_9_method_6_code
def yX7_isToldOnce : MethodName := ⟨RX7, "isToldOnce", "()Z"⟩
abbrev cX7_takesNumber : ByteArray := prog_9_method_7_code
def yX7_takesNumber : MethodName := ⟨RX7, "takesNumber", "(II)Z"⟩
abbrev cX7_isNewName : ByteArray := prog_9_method_8_code
def yX7_isNewName : MethodName := ⟨RX7, "isNewName", "(I)Z"⟩
abbrev cX7_readBend : ByteArray := prog_9_method_9_code
def yX7_readBend : MethodName := ⟨RX7, "readBend", "()Z"⟩
abbrev cX7_readWind : ByteArray := prog_9_method_10_code
def yX7_readWind : MethodName := ⟨RX7, "readWind", "()Z"⟩
abbrev cX7_readGoods : ByteArray := prog_9_method_11_code
def yX7_readGoods : MethodName := ⟨RX7, "readGoods", "()Z"⟩
abbrev cX7_readBag : ByteArray := prog_9_method_12_code
def yX7_readBag : MethodName := ⟨RX7, "readBag", "()Z"⟩
abbrev cX7_bendToldAhead : ByteArray := prog_9_method_13_code
def yX7_bendToldAhead : MethodName := ⟨RX7, "bendToldAhead", "(I)I"⟩
abbrev cX7_readDepot : ByteArray := prog_9_method_14_code
def yX7_readDepot : MethodName := ⟨RX7, "readDepot", "()Z"⟩
abbrev cX7_readThief : ByteArray := prog_9_method_15_code
def yX7_readThief : MethodName := ⟨RX7, "readThief", "()Z"⟩
abbrev cX7_readWarm : ByteArray := prog_9_method_16_code
def yX7_readWarm : MethodName := ⟨RX7, "readWarm", "()Z"⟩
abbrev cX7_readHorse : ByteArray := prog_9_method_17_code
def yX7_readHorse : MethodName := ⟨RX7, "readHorse", "()Z"⟩
abbrev cX7_readRope : ByteArray := prog_9_method_18_code
def yX7_readRope : MethodName := ⟨RX7, "readRope", "()Z"⟩
abbrev cX7_readStone : ByteArray := prog_9_method_19_code
def yX7_readStone : MethodName := ⟨RX7, "readStone", "()Z"⟩
abbrev cX7_readSeed : ByteArray := prog_9_method_20_code
def yX7_readSeed : MethodName := ⟨RX7, "readSeed", "()Z"⟩
abbrev cX7_readLaw : ByteArray := prog_9_method_21_code
def yX7_readLaw : MethodName := ⟨RX7, "readLaw", "()Z"⟩
abbrev cX7_isOneKnotMore : ByteArray := prog_9_method_22_code
def yX7_isOneKnotMore : MethodName := ⟨RX7, "isOneKnotMore", "()Z"⟩
abbrev cX7_takesValue : ByteArray := prog_9_method_23_code
def yX7_takesValue : MethodName := ⟨RX7, "takesValue", "(LUphillCarts$Law;)Z"⟩
abbrev cX7_takesSign : ByteArray := prog_9_method_24_code
def yX7_takesSign : MethodName := ⟨RX7, "takesSign", "(LUphillCarts$Law;)Z"⟩
abbrev cX7_push : ByteArray := prog_9_method_25_code
def yX7_push : MethodName := ⟨RX7, "push", "(I)V"⟩
abbrev cX7_rankOnTop : ByteArray := prog_9_method_26_code
def yX7_rankOnTop : MethodName := ⟨RX7, "rankOnTop", "()I"⟩
abbrev cX7_settle : ByteArray := prog_9_method_27_code
def yX7_settle : MethodName := ⟨RX7, "settle", "(LUphillCarts$Law;I)V"⟩
abbrev cX7_rankOf : ByteArray := prog_9_method_28_code
def yX7_rankOf : MethodName := ⟨RX7, "rankOf", "(I)I"⟩
def RX8 : String := "UphillCarts$Road"
def TX8 : u_T := fun k => match k with
  | 0 => ("UphillCarts$Road", "bendAt", "[LUphillCarts$Bend;", true)
  | 1 => ("UphillCarts$Road", "goodsAt", "[LUphillCarts$Goods;", true)
  | 2 => ("UphillCarts$Road", "sortName", "[I", true)
  | 3 => ("UphillCarts$Road", "sizeOf", "[I", true)
  | 4 => ("UphillCarts$Road", "manyOf", "[I", true)
  | 5 => ("UphillCarts$Road", "air", "[I", true)
  | 6 => ("UphillCarts$Road", "liftLaw", "LUphillCarts$Law;", true)
  | 7 => ("UphillCarts$Road", "pullLaw", "LUphillCarts$Law;", true)
  | 8 => ("UphillCarts$Road", "bends", "I", false)
  | 9 => ("UphillCarts$Road", "goods", "I", false)
  | 10 => ("UphillCarts$Road", "sorts", "I", false)
  | 11 => ("UphillCarts$Road", "strong", "I", false)
  | 12 => ("UphillCarts$Road", "holds", "I", false)
  | 13 => ("UphillCarts$Road", "rope", "I", false)
  | 14 => ("UphillCarts$Road", "stone", "I", false)
  | 15 => ("UphillCarts$Road", "seed", "I", false)
  | 16 => ("UphillCarts$Road", "knots", "I", false)
  | _ => ("UphillCarts$Road", "lines", "I", false)
def tyX8 : Nat → FieldType := fun k => match k with
  | 0 => .array (.object "UphillCarts$Bend")
  | 1 => .array (.object "UphillCarts$Goods")
  | 2 => .array .int
  | 3 => .array .int
  | 4 => .array .int
  | 5 => .array .int
  | 6 => .object "UphillCarts$Law"
  | 7 => .object "UphillCarts$Law"
  | 8 => .int
  | 9 => .int
  | 10 => .int
  | 11 => .int
  | 12 => .int
  | 13 => .int
  | 14 => .int
  | 15 => .int
  | 16 => .int
  | _ => .int
abbrev wsX80 : List Cond := u_ws RX8 TX8 18
theorem nmX8 : ∀ a, a < 18 → ∀ b, b < 18 → a ≠ b → (TX8 a).2.1 ≠ (TX8 b).2.1 := by decide +kernel
theorem tyX8_ok : ∀ k, k < 18 → parseFieldDescriptor (TX8 k).2.2.1 = some (tyX8 k) := by decide +kernel
abbrev cX8_init : ByteArray := prog_10_method_1_code
def yX8_init : MethodName := ⟨RX8, "<init>", "()V"⟩
abbrev cX8_empty : ByteArray := prog_10_method_2_code
def yX8_empty : MethodName := ⟨RX8, "empty", "()V"⟩
abbrev cX8_findBend : ByteArray := prog_10_method_3_code
def yX8_findBend : MethodName := ⟨RX8, "findBend", "(I)I"⟩
abbrev cX8_findGoods : ByteArray := prog_10_method_4_code
def yX8_findGoods : MethodName := ⟨RX8, "findGoods", "(I)I"⟩
abbrev cX8_findSort : ByteArray := prog_10_method_5_code
def yX8_findSort : MethodName := ⟨RX8, "findSort", "(I)I"⟩
abbrev cX8_slopeTo : ByteArray := prog_10_method_6_code
def yX8_slopeTo : MethodName := ⟨RX8, "slopeTo", "(I)I"⟩
abbrev cX8_weightOf : ByteArray := prog_10_method_7_code
def yX8_weightOf : MethodName := ⟨RX8, "weightOf", "(I)I"⟩
abbrev cX8_gainOf : ByteArray := prog_10_method_8_code
def yX8_gainOf : MethodName := ⟨RX8, "gainOf", "(I)I"⟩
abbrev cX8_hasBags : ByteArray := prog_10_method_9_code
def yX8_hasBags : MethodName := ⟨RX8, "hasBags", "(I)Z"⟩
abbrev cX8_windAt : ByteArray := prog_10_method_10_code
def yX8_windAt : MethodName := ⟨RX8, "windAt", "(I)I"⟩
def RX9 : String := "UphillCarts$Seen"
def TX9 : u_T := fun k => match k with
  | 0 => ("UphillCarts$Seen", "bend", "[I", true)
  | 1 => ("UphillCarts$Seen", "hour", "[I", true)
  | 2 => ("UphillCarts$Seen", "low", "[I", true)
  | 3 => ("UphillCarts$Seen", "high", "[I", true)
  | 4 => ("UphillCarts$Seen", "struck", "[Z", true)
  | 5 => ("UphillCarts$Seen", "strikes", "[I", true)
  | 6 => ("UphillCarts$Seen", "many", "I", false)
  | _ => ("UphillCarts$Seen", "by", "I", false)
def tyX9 : Nat → FieldType := fun k => match k with
  | 0 => .array .int
  | 1 => .array .int
  | 2 => .array .int
  | 3 => .array .int
  | 4 => .array .boolean
  | 5 => .array .int
  | 6 => .int
  | _ => .int
abbrev wsX90 : List Cond := u_ws RX9 TX9 8
theorem nmX9 : ∀ a, a < 8 → ∀ b, b < 8 → a ≠ b → (TX9 a).2.1 ≠ (TX9 b).2.1 := by decide +kernel
theorem tyX9_ok : ∀ k, k < 8 → parseFieldDescriptor (TX9 k).2.2.1 = some (tyX9 k) := by decide +kernel
abbrev cX9_init : ByteArray := prog_11_method_1_code
def yX9_init : MethodName := ⟨RX9, "<init>", "()V"⟩
abbrev cX9_forgetAll : ByteArray := prog_11_method_2_code
def yX9_forgetAll : MethodName := ⟨RX9, "forgetAll", "()V"⟩
abbrev cX9_add : ByteArray := prog_11_method_3_code
def yX9_add : MethodName := ⟨RX9, "add", "(IIII)I"⟩
abbrev cX9_addStrike : ByteArray := prog_11_method_4_code
def yX9_addStrike : MethodName := ⟨RX9, "addStrike", "(I)I"⟩
abbrev cX9_isStrike : ByteArray := prog_11_method_5_code
def yX9_isStrike : MethodName := ⟨RX9, "isStrike", "(I)Z"⟩
abbrev cX9_knownBy : ByteArray := prog_11_method_6_code
def yX9_knownBy : MethodName := ⟨RX9, "knownBy", "()I"⟩
abbrev cX9_findStruck : ByteArray := prog_11_method_7_code
def yX9_findStruck : MethodName := ⟨RX9, "findStruck", "()V"⟩
def RX10 : String := "UphillCarts$Tokens"
def TX10 : u_T := fun k => match k with
  | 0 => ("UphillCarts$Tokens", "tape", "[B", true)
  | 1 => ("UphillCarts$Tokens", "language", "[I", true)
  | 2 => ("UphillCarts$Tokens", "length", "I", false)
  | 3 => ("UphillCarts$Tokens", "next", "I", false)
  | 4 => ("UphillCarts$Tokens", "kind", "I", false)
  | 5 => ("UphillCarts$Tokens", "value", "I", false)
  | _ => ("UphillCarts$Tokens", "place", "I", false)
def tyX10 : Nat → FieldType := fun k => match k with
  | 0 => .array .byte
  | 1 => .array .int
  | 2 => .int
  | 3 => .int
  | 4 => .int
  | 5 => .int
  | _ => .int
abbrev wsX100 : List Cond := u_ws RX10 TX10 7
theorem nmX10 : ∀ a, a < 7 → ∀ b, b < 7 → a ≠ b → (TX10 a).2.1 ≠ (TX10 b).2.1 := by decide +kernel
theorem tyX10_ok : ∀ k, k < 7 → parseFieldDescriptor (TX10 k).2.2.1 = some (tyX10 k) := by decide +kernel
abbrev cX10_init : ByteArray := prog_12_method_1_code
def yX10_init : MethodName := ⟨RX10, "<init>", "([B)V"⟩
abbrev cX10_lettersOf : ByteArray := prog_12_method_2_code
def yX10_lettersOf : MethodName := ⟨RX10, "lettersOf", "(II)I"⟩
abbrev cX10_begin : ByteArray := prog_12_method_3_code
def yX10_begin : MethodName := ⟨RX10, "begin", "(I)V"⟩
abbrev cX10_step : ByteArray := prog_12_method_4_code
def yX10_step : MethodName := ⟨RX10, "step", "()V"⟩
abbrev cX10_isLetter : ByteArray := prog_12_method_5_code
def yX10_isLetter : MethodName := ⟨RX10, "isLetter", "(B)Z"⟩
abbrev cX10_isDigit : ByteArray := prog_12_method_6_code
def yX10_isDigit : MethodName := ⟨RX10, "isDigit", "(B)Z"⟩
abbrev cX10_readWord : ByteArray := prog_12_method_7_code
def yX10_readWord : MethodName := ⟨RX10, "readWord", "()V"⟩
abbrev cX10_kindOf : ByteArray := prog_12_method_8_code
def yX10_kindOf : MethodName := ⟨RX10, "kindOf", "(I)I"⟩
abbrev cX10_readNumber : ByteArray := prog_12_method_9_code
def yX10_readNumber : MethodName := ⟨RX10, "readNumber", "()V"⟩
abbrev cX10_signOf : ByteArray := prog_12_method_10_code
def yX10_signOf : MethodName := ⟨RX10, "signOf", "(B)I"⟩
abbrev cX10_readSecondSign : ByteArray := prog_12_method_11_code
def yX10_readSecondSign : MethodName := ⟨RX10, "readSecondSign", "()V"⟩
def RX11 : String := "UphillCarts"
def TX11 : u_T := fun k => match k with
  | 0 => ("UphillCarts", "tape", "[B", true)
  | 1 => ("UphillCarts", "fed", "I", false)
  | 2 => ("UphillCarts", "fault", "I", false)
  | 3 => ("UphillCarts", "place", "I", false)
  | 4 => ("UphillCarts", "parser", "LUphillCarts$Parser;", true)
  | 5 => ("UphillCarts", "road", "LUphillCarts$Road;", false)
  | 6 => ("UphillCarts", "spare", "LUphillCarts$Road;", false)
  | 7 => ("UphillCarts", "forces", "LUphillCarts$Forces;", true)
  | 8 => ("UphillCarts", "otherwise", "LUphillCarts$Forces;", true)
  | 9 => ("UphillCarts", "loads", "LUphillCarts$Loads;", true)
  | 10 => ("UphillCarts", "weights", "LUphillCarts$Ballast;", true)
  | 11 => ("UphillCarts", "seen", "LUphillCarts$Seen;", true)
  | 12 => ("UphillCarts", "cart", "LUphillCarts$Cart;", true)
  | 13 => ("UphillCarts", "image", "LUphillCarts$Cart;", true)
  | 14 => ("UphillCarts", "trial", "LUphillCarts$Cart;", true)
  | 15 => ("UphillCarts", "imaged", "Z", false)
  | 16 => ("UphillCarts", "imageKnownBy", "I", false)
  | 17 => ("UphillCarts", "past", "[I", true)
  | _ => ("UphillCarts", "undoable", "I", false)
def tyX11 : Nat → FieldType := fun k => match k with
  | 0 => .array .byte
  | 1 => .int
  | 2 => .int
  | 3 => .int
  | 4 => .object "UphillCarts$Parser"
  | 5 => .object "UphillCarts$Road"
  | 6 => .object "UphillCarts$Road"
  | 7 => .object "UphillCarts$Forces"
  | 8 => .object "UphillCarts$Forces"
  | 9 => .object "UphillCarts$Loads"
  | 10 => .object "UphillCarts$Ballast"
  | 11 => .object "UphillCarts$Seen"
  | 12 => .object "UphillCarts$Cart"
  | 13 => .object "UphillCarts$Cart"
  | 14 => .object "UphillCarts$Cart"
  | 15 => .boolean
  | 16 => .int
  | 17 => .array .int
  | _ => .int
abbrev wsX110 : List Cond := u_ws RX11 TX11 19
theorem nmX11 : ∀ a, a < 19 → ∀ b, b < 19 → a ≠ b → (TX11 a).2.1 ≠ (TX11 b).2.1 := by decide +kernel
theorem tyX11_ok : ∀ k, k < 19 → parseFieldDescriptor (TX11 k).2.2.1 = some (tyX11 k) := by decide +kernel
abbrev cX11_init : ByteArray := prog_1_method_1_code
def yX11_init : MethodName := ⟨RX11, "<init>", "()V"⟩
abbrev cX11_begin : ByteArray := prog_1_method_2_code
def yX11_begin : MethodName := ⟨RX11, "begin", "()V"⟩
abbrev cX11_feed : ByteArray := prog_1_method_3_code
def yX11_feed : MethodName := ⟨RX11, "feed", "(IIIII)I"⟩
abbrev cX11_addBytes : ByteArray := prog_1_method_4_code
def yX11_addBytes : MethodName := ⟨RX11, "addBytes", "(I)V"⟩
abbrev cX11_text : ByteArray := prog_1_method_5_code
def yX11_text : MethodName := ⟨RX11, "text", "(I)I"⟩
abbrev cX11_fault : ByteArray := prog_1_method_6_code
def yX11_fault : MethodName := ⟨RX11, "fault", "(I)I"⟩
abbrev cX11_named : ByteArray := prog_1_method_7_code
def yX11_named : MethodName := ⟨RX11, "named", "(II)I"⟩
abbrev cX11_look : ByteArray := prog_1_method_8_code
def yX11_look : MethodName := ⟨RX11, "look", "(II)I"⟩
abbrev cX11_goods : ByteArray := prog_1_method_9_code
def yX11_goods : MethodName := ⟨RX11, "goods", "(II)I"⟩
abbrev cX11_bag : ByteArray := prog_1_method_10_code
def yX11_bag : MethodName := ⟨RX11, "bag", "(II)I"⟩
abbrev cX11_lift : ByteArray := prog_1_method_11_code
def yX11_lift : MethodName := ⟨RX11, "lift", "(III)I"⟩
abbrev cX11_pull : ByteArray := prog_1_method_12_code
def yX11_pull : MethodName := ⟨RX11, "pull", "(II)I"⟩
abbrev cX11_net : ByteArray := prog_1_method_13_code
def yX11_net : MethodName := ⟨RX11, "net", "(II)I"⟩
abbrev cX11_law : ByteArray := prog_1_method_14_code
def yX11_law : MethodName := ⟨RX11, "law", "(IIII)J"⟩
abbrev cX11_load : ByteArray := prog_1_method_15_code
def yX11_load : MethodName := ⟨RX11, "load", "(IZ)Z"⟩
abbrev cX11_tie : ByteArray := prog_1_method_16_code
def yX11_tie : MethodName := ⟨RX11, "tie", "(II)Z"⟩
abbrev cX11_stones : ByteArray := prog_1_method_17_code
def yX11_stones : MethodName := ⟨RX11, "stones", "(I)Z"⟩
abbrev cX11_at : ByteArray := prog_1_method_18_code
def yX11_at : MethodName := ⟨RX11, "at", "(I)Z"⟩
abbrev cX11_go : ByteArray := prog_1_method_19_code
def yX11_go : MethodName := ⟨RX11, "go", "(I)I"⟩
abbrev cX11_trade : ByteArray := prog_1_method_20_code
def yX11_trade : MethodName := ⟨RX11, "trade", "(I)I"⟩
abbrev cX11_led : ByteArray := prog_1_method_21_code
def yX11_led : MethodName := ⟨RX11, "led", "(II)I"⟩
abbrev cX11_when : ByteArray := prog_1_method_22_code
def yX11_when : MethodName := ⟨RX11, "when", "()I"⟩
abbrev cX11_hoursUp : ByteArray := prog_1_method_23_code
def yX11_hoursUp : MethodName := ⟨RX11, "hoursUp", "()I"⟩
abbrev cX11_span : ByteArray := prog_1_method_24_code
def yX11_span : MethodName := ⟨RX11, "span", "(I)I"⟩
abbrev cX11_rowFrom : ByteArray := prog_1_method_25_code
def yX11_rowFrom : MethodName := ⟨RX11, "rowFrom", "(II)I"⟩
abbrev cX11_most : ByteArray := prog_1_method_26_code
def yX11_most : MethodName := ⟨RX11, "most", "(II)I"⟩
abbrev cX11_ballast : ByteArray := prog_1_method_27_code
def yX11_ballast : MethodName := ⟨RX11, "ballast", "(I)I"⟩
abbrev cX11_behind : ByteArray := prog_1_method_28_code
def yX11_behind : MethodName := ⟨RX11, "behind", "(II)I"⟩
abbrev cX11_ropes : ByteArray := prog_1_method_29_code
def yX11_ropes : MethodName := ⟨RX11, "ropes", "(I)I"⟩
abbrev cX11_meet : ByteArray := prog_1_method_30_code
def yX11_meet : MethodName := ⟨RX11, "meet", "(III)I"⟩
abbrev cX11_meetingBend : ByteArray := prog_1_method_31_code
def yX11_meetingBend : MethodName := ⟨RX11, "meetingBend", "(II)I"⟩
abbrev cX11_waits : ByteArray := prog_1_method_32_code
def yX11_waits : MethodName := ⟨RX11, "waits", "(II)I"⟩
abbrev cX11_worth : ByteArray := prog_1_method_33_code
def yX11_worth : MethodName := ⟨RX11, "worth", "(II)I"⟩
abbrev cX11_toll : ByteArray := prog_1_method_34_code
def yX11_toll : MethodName := ⟨RX11, "toll", "(I)I"⟩
abbrev cX11_lands : ByteArray := prog_1_method_35_code
def yX11_lands : MethodName := ⟨RX11, "lands", "(I)I"⟩
abbrev cX11_see : ByteArray := prog_1_method_36_code
def yX11_see : MethodName := ⟨RX11, "see", "(IIII)I"⟩
abbrev cX11_strike : ByteArray := prog_1_method_37_code
def yX11_strike : MethodName := ⟨RX11, "strike", "(I)I"⟩
abbrev cX11_known : ByteArray := prog_1_method_38_code
def yX11_known : MethodName := ⟨RX11, "known", "(I)Z"⟩
abbrev cX11_fits : ByteArray := prog_1_method_39_code
def yX11_fits : MethodName := ⟨RX11, "fits", "()I"⟩
abbrev cX11_fit : ByteArray := prog_1_method_40_code
def yX11_fit : MethodName := ⟨RX11, "fit", "(II)I"⟩
abbrev cX11_sure : ByteArray := prog_1_method_41_code
def yX11_sure : MethodName := ⟨RX11, "sure", "(I)I"⟩
abbrev cX11_chance : ByteArray := prog_1_method_42_code
def yX11_chance : MethodName := ⟨RX11, "chance", "(I)I"⟩
abbrev cX11_tried : ByteArray := prog_1_method_43_code
def yX11_tried : MethodName := ⟨RX11, "tried", "(III)I"⟩
abbrev cX11_isTrial : ByteArray := prog_1_method_44_code
def yX11_isTrial : MethodName := ⟨RX11, "isTrial", "(II)Z"⟩
abbrev cX11_undo : ByteArray := prog_1_method_45_code
def yX11_undo : MethodName := ⟨RX11, "undo", "()I"⟩
abbrev cX11_remember : ByteArray := prog_1_method_46_code
def yX11_remember : MethodName := ⟨RX11, "remember", "()V"⟩
abbrev cX11_keep : ByteArray := prog_1_method_47_code
def yX11_keep : MethodName := ⟨RX11, "keep", "()I"⟩
abbrev cX11_back : ByteArray := prog_1_method_48_code
def yX11_back : MethodName := ⟨RX11, "back", "()I"⟩
abbrev cX11_count : ByteArray := prog_1_method_49_code
def yX11_count : MethodName := ⟨RX11, "count", "(I)I"⟩
abbrev cX11_isBend : ByteArray := prog_1_method_50_code
def yX11_isBend : MethodName := ⟨RX11, "isBend", "(I)Z"⟩
abbrev cX11_isGoods : ByteArray := prog_1_method_51_code
def yX11_isGoods : MethodName := ⟨RX11, "isGoods", "(I)Z"⟩
abbrev cX11_isSort : ByteArray := prog_1_method_52_code
def yX11_isSort : MethodName := ⟨RX11, "isSort", "(I)Z"⟩
abbrev cX11_isHour : ByteArray := prog_1_method_53_code
def yX11_isHour : MethodName := ⟨RX11, "isHour", "(I)Z"⟩
abbrev cX11_hasWays : ByteArray := prog_1_method_54_code
def yX11_hasWays : MethodName := ⟨RX11, "hasWays", "()Z"⟩
abbrev cX11_canBeLoaded : ByteArray := prog_1_method_55_code
def yX11_canBeLoaded : MethodName := ⟨RX11, "canBeLoaded", "()Z"⟩
def RX12 : String := "UphillCartsModel"
def TX12 : u_T := fun k => match k with
  | 0 => ("UphillCartsModel", "thrown", "I", false)
  | 1 => ("UphillCartsModel", "tape", "[I", true)
  | 2 => ("UphillCartsModel", "taped", "I", false)
  | 3 => ("UphillCartsModel", "number", "[I", true)
  | 4 => ("UphillCartsModel", "bendName", "[I", true)
  | 5 => ("UphillCartsModel", "height", "[I", true)
  | 6 => ("UphillCartsModel", "isWide", "[Z", true)
  | 7 => ("UphillCartsModel", "wind", "[I", true)
  | 8 => ("UphillCartsModel", "depotAs", "[I", true)
  | 9 => ("UphillCartsModel", "thief", "[I", true)
  | 10 => ("UphillCartsModel", "goodsName", "[I", true)
  | 11 => ("UphillCartsModel", "weight", "[I", true)
  | 12 => ("UphillCartsModel", "below", "[I", true)
  | 13 => ("UphillCartsModel", "above", "[I", true)
  | 14 => ("UphillCartsModel", "bagName", "[I", true)
  | 15 => ("UphillCartsModel", "bagSize", "[I", true)
  | 16 => ("UphillCartsModel", "bagMany", "[I", true)
  | 17 => ("UphillCartsModel", "air", "[I", true)
  | 18 => ("UphillCartsModel", "sumFrom", "[I", true)
  | 19 => ("UphillCartsModel", "sumTo", "[I", true)
  | 20 => ("UphillCartsModel", "knotSort", "[I", true)
  | 21 => ("UphillCartsModel", "knotValue", "[I", true)
  | 22 => ("UphillCartsModel", "told", "I", false)
  | 23 => ("UphillCartsModel", "depotsTold", "I", false)
  | 24 => ("UphillCartsModel", "thievesTold", "I", false)
  | 25 => ("UphillCartsModel", "lines", "I", false)
  | 26 => ("UphillCartsModel", "size", "I", false)
  | 27 => ("UphillCartsModel", "at", "I", false)
  | 28 => ("UphillCartsModel", "place", "I", false)
  | 29 => ("UphillCartsModel", "sort", "I", false)
  | 30 => ("UphillCartsModel", "value", "I", false)
  | 31 => ("UphillCartsModel", "fault", "I", false)
  | 32 => ("UphillCartsModel", "faultPlace", "I", false)
  | 33 => ("UphillCartsModel", "lastFault", "I", false)
  | 34 => ("UphillCartsModel", "lastPlace", "I", false)
  | 35 => ("UphillCartsModel", "open", "I", false)
  | 36 => ("UphillCartsModel", "counted", "I", false)
  | 37 => ("UphillCartsModel", "hour", "[I", true)
  | 38 => ("UphillCartsModel", "bend", "[I", true)
  | 39 => ("UphillCartsModel", "state", "[I", true)
  | 40 => ("UphillCartsModel", "loaded", "[I", true)
  | 41 => ("UphillCartsModel", "tied", "[I", true)
  | 42 => ("UphillCartsModel", "stones", "[I", true)
  | 43 => ("UphillCartsModel", "drawn", "[I", true)
  | 44 => ("UphillCartsModel", "depot", "[I", true)
  | 45 => ("UphillCartsModel", "hasImage", "Z", false)
  | 46 => ("UphillCartsModel", "undoMany", "I", false)
  | 47 => ("UphillCartsModel", "names", "[J", true)
  | 48 => ("UphillCartsModel", "worked", "[J", true)
  | 49 => ("UphillCartsModel", "workedMany", "I", false)
  | 50 => ("UphillCartsModel", "tryWhat", "I", false)
  | 51 => ("UphillCartsModel", "lifts", "[I", true)
  | 52 => ("UphillCartsModel", "pulls", "[I", true)
  | 53 => ("UphillCartsModel", "wayEnd", "I", false)
  | 54 => ("UphillCartsModel", "mostGain", "I", false)
  | 55 => ("UphillCartsModel", "mostGoods", "I", false)
  | 56 => ("UphillCartsModel", "mostBags", "I", false)
  | 57 => ("UphillCartsModel", "mostStones", "I", false)
  | 58 => ("UphillCartsModel", "mostToll", "I", false)
  | 59 => ("UphillCartsModel", "changes", "[I", true)
  | 60 => ("UphillCartsModel", "meetHour", "I", false)
  | 61 => ("UphillCartsModel", "seen", "I", false)
  | 62 => ("UphillCartsModel", "knownBy", "I", false)
  | 63 => ("UphillCartsModel", "seenBend", "[I", true)
  | 64 => ("UphillCartsModel", "seenHour", "[I", true)
  | 65 => ("UphillCartsModel", "seenLow", "[I", true)
  | 66 => ("UphillCartsModel", "seenHigh", "[I", true)
  | 67 => ("UphillCartsModel", "strikes", "[I", true)
  | 68 => ("UphillCartsModel", "isStruck", "[Z", true)
  | 69 => ("UphillCartsModel", "fitMany", "I", false)
  | 70 => ("UphillCartsModel", "fitWanted", "I", false)
  | 71 => ("UphillCartsModel", "fitGoods", "I", false)
  | 72 => ("UphillCartsModel", "fitBags", "I", false)
  | 73 => ("UphillCartsModel", "fitStones", "I", false)
  | 74 => ("UphillCartsModel", "fitAll", "I", false)
  | _ => ("UphillCartsModel", "fitSome", "I", false)
def tyX12 : Nat → FieldType := fun k => match k with
  | 0 => .int
  | 1 => .array .int
  | 2 => .int
  | 3 => .array .int
  | 4 => .array .int
  | 5 => .array .int
  | 6 => .array .boolean
  | 7 => .array .int
  | 8 => .array .int
  | 9 => .array .int
  | 10 => .array .int
  | 11 => .array .int
  | 12 => .array .int
  | 13 => .array .int
  | 14 => .array .int
  | 15 => .array .int
  | 16 => .array .int
  | 17 => .array .int
  | 18 => .array .int
  | 19 => .array .int
  | 20 => .array .int
  | 21 => .array .int
  | 22 => .int
  | 23 => .int
  | 24 => .int
  | 25 => .int
  | 26 => .int
  | 27 => .int
  | 28 => .int
  | 29 => .int
  | 30 => .int
  | 31 => .int
  | 32 => .int
  | 33 => .int
  | 34 => .int
  | 35 => .int
  | 36 => .int
  | 37 => .array .int
  | 38 => .array .int
  | 39 => .array .int
  | 40 => .array .int
  | 41 => .array .int
  | 42 => .array .int
  | 43 => .array .int
  | 44 => .array .int
  | 45 => .boolean
  | 46 => .int
  | 47 => .array .long
  | 48 => .array .long
  | 49 => .int
  | 50 => .int
  | 51 => .array .int
  | 52 => .array .int
  | 53 => .int
  | 54 => .int
  | 55 => .int
  | 56 => .int
  | 57 => .int
  | 58 => .int
  | 59 => .array .int
  | 60 => .int
  | 61 => .int
  | 62 => .int
  | 63 => .array .int
  | 64 => .array .int
  | 65 => .array .int
  | 66 => .array .int
  | 67 => .array .int
  | 68 => .array .boolean
  | 69 => .int
  | 70 => .int
  | 71 => .int
  | 72 => .int
  | 73 => .int
  | 74 => .int
  | _ => .int
abbrev wsX120 : List Cond := u_ws RX12 TX12 76
theorem nmX12 : ∀ a, a < 76 → ∀ b, b < 76 → a ≠ b → (TX12 a).2.1 ≠ (TX12 b).2.1 := by decide +kernel
theorem tyX12_ok : ∀ k, k < 76 → parseFieldDescriptor (TX12 k).2.2.1 = some (tyX12 k) := by decide +kernel
abbrev cX12_init : ByteArray := prog_14_method_1_code
def yX12_init : MethodName := ⟨RX12, "<init>", "()V"⟩
abbrev cX12_feed : ByteArray := prog_14_method_3_code
def yX12_feed : MethodName := ⟨RX12, "feed", "(IIIII)I"⟩
abbrev cX12_here : ByteArray := prog_14_method_4_code
def yX12_here : MethodName := ⟨RX12, "here", "()I"⟩
abbrev cX12_isSmall : ByteArray := prog_14_method_5_code
def yX12_isSmall : MethodName := ⟨RX12, "isSmall", "(I)Z"⟩
abbrev cX12_isDigit : ByteArray := prog_14_method_6_code
def yX12_isDigit : MethodName := ⟨RX12, "isDigit", "(I)Z"⟩
abbrev cX12_token : ByteArray := prog_14_method_7_code
def yX12_token : MethodName := ⟨RX12, "token", "()V"⟩
abbrev cX12_sign : ByteArray := prog_14_method_8_code
def yX12_sign : MethodName := ⟨RX12, "sign", "(I)V"⟩
abbrev cX12_word : ByteArray := prog_14_method_9_code
def yX12_word : MethodName := ⟨RX12, "word", "()I"⟩
abbrev cX12_name : ByteArray := prog_14_method_10_code
def yX12_name : MethodName := ⟨RX12, "name", "()V"⟩
abbrev cX12_wrong : ByteArray := prog_14_method_11_code
def yX12_wrong : MethodName := ⟨RX12, "wrong", "(I)V"⟩
abbrev cX12_isWord : ByteArray := prog_14_method_12_code
def yX12_isWord : MethodName := ⟨RX12, "isWord", "(I)Z"⟩
abbrev cX12_isSign : ByteArray := prog_14_method_13_code
def yX12_isSign : MethodName := ⟨RX12, "isSign", "(I)Z"⟩
abbrev cX12_goOn : ByteArray := prog_14_method_14_code
def yX12_goOn : MethodName := ⟨RX12, "goOn", "()V"⟩
abbrev cX12_numeral : ByteArray := prog_14_method_15_code
def yX12_numeral : MethodName := ⟨RX12, "numeral", "(II)I"⟩
abbrev cX12_found : ByteArray := prog_14_method_16_code
def yX12_found : MethodName := ⟨RX12, "found", "([IIII)I"⟩
abbrev cX12_fresh : ByteArray := prog_14_method_17_code
def yX12_fresh : MethodName := ⟨RX12, "fresh", "([III)I"⟩
abbrev cX12_fresher : ByteArray := prog_14_method_18_code
def yX12_fresher : MethodName := ⟨RX12, "fresher", "(I)I"⟩
abbrev cX12_reads : ByteArray := prog_14_method_19_code
def yX12_reads : MethodName := ⟨RX12, "reads", "(II)V"⟩
abbrev cX12_isFull : ByteArray := prog_14_method_20_code
def yX12_isFull : MethodName := ⟨RX12, "isFull", "(I)Z"⟩
abbrev cX12_line : ByteArray := prog_14_method_21_code
def yX12_line : MethodName := ⟨RX12, "line", "()V"⟩
abbrev cX12_bendLine : ByteArray := prog_14_method_22_code
def yX12_bendLine : MethodName := ⟨RX12, "bendLine", "(I)V"⟩
abbrev cX12_bendAtHand : ByteArray := prog_14_method_23_code
def yX12_bendAtHand : MethodName := ⟨RX12, "bendAtHand", "(I)I"⟩
abbrev cX12_warmLine : ByteArray := prog_14_method_24_code
def yX12_warmLine : MethodName := ⟨RX12, "warmLine", "()V"⟩
abbrev cX12_lawLine : ByteArray := prog_14_method_25_code
def yX12_lawLine : MethodName := ⟨RX12, "lawLine", "()V"⟩
abbrev cX12_puts : ByteArray := prog_14_method_26_code
def yX12_puts : MethodName := ⟨RX12, "puts", "(II)V"⟩
abbrev cX12_knot : ByteArray := prog_14_method_27_code
def yX12_knot : MethodName := ⟨RX12, "knot", "()V"⟩
abbrev cX12_expression : ByteArray := prog_14_method_28_code
def yX12_expression : MethodName := ⟨RX12, "expression", "()V"⟩
abbrev cX12_conjunction : ByteArray := prog_14_method_29_code
def yX12_conjunction : MethodName := ⟨RX12, "conjunction", "()V"⟩
abbrev cX12_negation : ByteArray := prog_14_method_30_code
def yX12_negation : MethodName := ⟨RX12, "negation", "()V"⟩
abbrev cX12_sum : ByteArray := prog_14_method_31_code
def yX12_sum : MethodName := ⟨RX12, "sum", "()V"⟩
abbrev cX12_product : ByteArray := prog_14_method_32_code
def yX12_product : MethodName := ⟨RX12, "product", "()V"⟩
abbrev cX12_primary : ByteArray := prog_14_method_33_code
def yX12_primary : MethodName := ⟨RX12, "primary", "()V"⟩
abbrev cX12_half : ByteArray := prog_14_method_34_code
def yX12_half : MethodName := ⟨RX12, "half", "([I)V"⟩
abbrev cX12_text : ByteArray := prog_14_method_35_code
def yX12_text : MethodName := ⟨RX12, "text", "(I)I"⟩
abbrev cX12_fault : ByteArray := prog_14_method_36_code
def yX12_fault : MethodName := ⟨RX12, "fault", "(I)I"⟩
abbrev cX12_named : ByteArray := prog_14_method_37_code
def yX12_named : MethodName := ⟨RX12, "named", "(II)I"⟩
abbrev cX12_begins : ByteArray := prog_14_method_38_code
def yX12_begins : MethodName := ⟨RX12, "begins", "()V"⟩
abbrev cX12_copies : ByteArray := prog_14_method_39_code
def yX12_copies : MethodName := ⟨RX12, "copies", "(II)V"⟩
abbrev cX12_isBend : ByteArray := prog_14_method_40_code
def yX12_isBend : MethodName := ⟨RX12, "isBend", "(I)Z"⟩
abbrev cX12_isGoods : ByteArray := prog_14_method_41_code
def yX12_isGoods : MethodName := ⟨RX12, "isGoods", "(I)Z"⟩
abbrev cX12_isSort : ByteArray := prog_14_method_42_code
def yX12_isSort : MethodName := ⟨RX12, "isSort", "(I)Z"⟩
abbrev cX12_isHour : ByteArray := prog_14_method_43_code
def yX12_isHour : MethodName := ⟨RX12, "isHour", "(I)Z"⟩
abbrev cX12_slopeTo : ByteArray := prog_14_method_44_code
def yX12_slopeTo : MethodName := ⟨RX12, "slopeTo", "(I)I"⟩
abbrev cX12_look : ByteArray := prog_14_method_45_code
def yX12_look : MethodName := ⟨RX12, "look", "(II)I"⟩
abbrev cX12_goods : ByteArray := prog_14_method_46_code
def yX12_goods : MethodName := ⟨RX12, "goods", "(II)I"⟩
abbrev cX12_bag : ByteArray := prog_14_method_47_code
def yX12_bag : MethodName := ⟨RX12, "bag", "(II)I"⟩
abbrev cX12_is : ByteArray := prog_14_method_48_code
def yX12_is : MethodName := ⟨RX12, "is", "(Z)J"⟩
abbrev cX12_works : ByteArray := prog_14_method_49_code
def yX12_works : MethodName := ⟨RX12, "works", "(I)Z"⟩
abbrev cX12_goes : ByteArray := prog_14_method_50_code
def yX12_goes : MethodName := ⟨RX12, "goes", "(I)Z"⟩
abbrev cX12_hasLaw : ByteArray := prog_14_method_51_code
def yX12_hasLaw : MethodName := ⟨RX12, "hasLaw", "(I)Z"⟩
abbrev cX12_within : ByteArray := prog_14_method_52_code
def yX12_within : MethodName := ⟨RX12, "within", "(III)I"⟩
abbrev cX12_strong : ByteArray := prog_14_method_53_code
def yX12_strong : MethodName := ⟨RX12, "strong", "()I"⟩
abbrev cX12_calls : ByteArray := prog_14_method_54_code
def yX12_calls : MethodName := ⟨RX12, "calls", "(III)V"⟩
abbrev cX12_liftOf : ByteArray := prog_14_method_55_code
def yX12_liftOf : MethodName := ⟨RX12, "liftOf", "(III)I"⟩
abbrev cX12_pullOf : ByteArray := prog_14_method_56_code
def yX12_pullOf : MethodName := ⟨RX12, "pullOf", "(II)I"⟩
abbrev cX12_layLaws : ByteArray := prog_14_method_57_code
def yX12_layLaws : MethodName := ⟨RX12, "layLaws", "()V"⟩
abbrev cX12_netOf : ByteArray := prog_14_method_58_code
def yX12_netOf : MethodName := ⟨RX12, "netOf", "(IIIII)I"⟩
abbrev cX12_lift : ByteArray := prog_14_method_59_code
def yX12_lift : MethodName := ⟨RX12, "lift", "(III)I"⟩
abbrev cX12_pull : ByteArray := prog_14_method_60_code
def yX12_pull : MethodName := ⟨RX12, "pull", "(II)I"⟩
abbrev cX12_net : ByteArray := prog_14_method_61_code
def yX12_net : MethodName := ⟨RX12, "net", "(II)I"⟩
abbrev cX12_law : ByteArray := prog_14_method_62_code
def yX12_law : MethodName := ⟨RX12, "law", "(IIII)J"⟩
abbrev cX12_keepNow : ByteArray := prog_14_method_63_code
def yX12_keepNow : MethodName := ⟨RX12, "keepNow", "()V"⟩
abbrev cX12_isBelow : ByteArray := prog_14_method_64_code
def yX12_isBelow : MethodName := ⟨RX12, "isBelow", "()Z"⟩
abbrev cX12_load : ByteArray := prog_14_method_65_code
def yX12_load : MethodName := ⟨RX12, "load", "(IZ)Z"⟩
abbrev cX12_tie : ByteArray := prog_14_method_66_code
def yX12_tie : MethodName := ⟨RX12, "tie", "(II)Z"⟩
abbrev cX12_stones : ByteArray := prog_14_method_67_code
def yX12_stones : MethodName := ⟨RX12, "stones", "(I)Z"⟩
abbrev cX12_at : ByteArray := prog_14_method_68_code
def yX12_at : MethodName := ⟨RX12, "at", "(I)Z"⟩
abbrev cX12_draw : ByteArray := prog_14_method_69_code
def yX12_draw : MethodName := ⟨RX12, "draw", "(I)I"⟩
abbrev cX12_netAt : ByteArray := prog_14_method_70_code
def yX12_netAt : MethodName := ⟨RX12, "netAt", "(III)I"⟩
abbrev cX12_passes : ByteArray := prog_14_method_71_code
def yX12_passes : MethodName := ⟨RX12, "passes", "(I)V"⟩
abbrev cX12_cuts : ByteArray := prog_14_method_72_code
def yX12_cuts : MethodName := ⟨RX12, "cuts", "(I)V"⟩
abbrev cX12_go : ByteArray := prog_14_method_73_code
def yX12_go : MethodName := ⟨RX12, "go", "(I)I"⟩
abbrev cX12_trade : ByteArray := prog_14_method_74_code
def yX12_trade : MethodName := ⟨RX12, "trade", "(I)I"⟩
abbrev cX12_way : ByteArray := prog_14_method_75_code
def yX12_way : MethodName := ⟨RX12, "way", "(IIIII)I"⟩
abbrev cX12_wayNow : ByteArray := prog_14_method_76_code
def yX12_wayNow : MethodName := ⟨RX12, "wayNow", "(I)I"⟩
abbrev cX12_isFrom : ByteArray := prog_14_method_77_code
def yX12_isFrom : MethodName := ⟨RX12, "isFrom", "(I)Z"⟩
abbrev cX12_led : ByteArray := prog_14_method_78_code
def yX12_led : MethodName := ⟨RX12, "led", "(II)I"⟩
abbrev cX12_whenUp : ByteArray := prog_14_method_79_code
def yX12_whenUp : MethodName := ⟨RX12, "whenUp", "()I"⟩
abbrev cX12_when : ByteArray := prog_14_method_80_code
def yX12_when : MethodName := ⟨RX12, "when", "()I"⟩
abbrev cX12_span : ByteArray := prog_14_method_81_code
def yX12_span : MethodName := ⟨RX12, "span", "(I)I"⟩
abbrev cX12_areBags : ByteArray := prog_14_method_82_code
def yX12_areBags : MethodName := ⟨RX12, "areBags", "(I)Z"⟩
abbrev cX12_gainOf : ByteArray := prog_14_method_83_code
def yX12_gainOf : MethodName := ⟨RX12, "gainOf", "(I)I"⟩
abbrev cX12_poundsOf : ByteArray := prog_14_method_84_code
def yX12_poundsOf : MethodName := ⟨RX12, "poundsOf", "(I)I"⟩
abbrev cX12_layMost : ByteArray := prog_14_method_85_code
def yX12_layMost : MethodName := ⟨RX12, "layMost", "(I)V"⟩
abbrev cX12_most : ByteArray := prog_14_method_86_code
def yX12_most : MethodName := ⟨RX12, "most", "(II)I"⟩
abbrev cX12_toll : ByteArray := prog_14_method_87_code
def yX12_toll : MethodName := ⟨RX12, "toll", "(I)I"⟩
abbrev cX12_isHeld : ByteArray := prog_14_method_88_code
def yX12_isHeld : MethodName := ⟨RX12, "isHeld", "(III)Z"⟩
abbrev cX12_comesOn : ByteArray := prog_14_method_89_code
def yX12_comesOn : MethodName := ⟨RX12, "comesOn", "(III)Z"⟩
abbrev cX12_changesBy : ByteArray := prog_14_method_90_code
def yX12_changesBy : MethodName := ⟨RX12, "changesBy", "(IIII)I"⟩
abbrev cX12_layBallast : ByteArray := prog_14_method_91_code
def yX12_layBallast : MethodName := ⟨RX12, "layBallast", "(I)V"⟩
abbrev cX12_ballast : ByteArray := prog_14_method_92_code
def yX12_ballast : MethodName := ⟨RX12, "ballast", "(I)I"⟩
abbrev cX12_behind : ByteArray := prog_14_method_93_code
def yX12_behind : MethodName := ⟨RX12, "behind", "(II)I"⟩
abbrev cX12_ropes : ByteArray := prog_14_method_94_code
def yX12_ropes : MethodName := ⟨RX12, "ropes", "(I)I"⟩
abbrev cX12_meetOf : ByteArray := prog_14_method_95_code
def yX12_meetOf : MethodName := ⟨RX12, "meetOf", "(II)I"⟩
abbrev cX12_isMeet : ByteArray := prog_14_method_96_code
def yX12_isMeet : MethodName := ⟨RX12, "isMeet", "(II)Z"⟩
abbrev cX12_meet : ByteArray := prog_14_method_97_code
def yX12_meet : MethodName := ⟨RX12, "meet", "(III)I"⟩
abbrev cX12_waits : ByteArray := prog_14_method_98_code
def yX12_waits : MethodName := ⟨RX12, "waits", "(II)I"⟩
abbrev cX12_worth : ByteArray := prog_14_method_99_code
def yX12_worth : MethodName := ⟨RX12, "worth", "(II)I"⟩
abbrev cX12_lands : ByteArray := prog_14_method_100_code
def yX12_lands : MethodName := ⟨RX12, "lands", "(I)I"⟩
abbrev cX12_see : ByteArray := prog_14_method_101_code
def yX12_see : MethodName := ⟨RX12, "see", "(IIII)I"⟩
abbrev cX12_strike : ByteArray := prog_14_method_102_code
def yX12_strike : MethodName := ⟨RX12, "strike", "(I)I"⟩
abbrev cX12_known : ByteArray := prog_14_method_103_code
def yX12_known : MethodName := ⟨RX12, "known", "(I)Z"⟩
abbrev cX12_knownMany : ByteArray := prog_14_method_104_code
def yX12_knownMany : MethodName := ⟨RX12, "knownMany", "()I"⟩
abbrev cX12_fitsBy : ByteArray := prog_14_method_105_code
def yX12_fitsBy : MethodName := ⟨RX12, "fitsBy", "(III)Z"⟩
abbrev cX12_layFits : ByteArray := prog_14_method_106_code
def yX12_layFits : MethodName := ⟨RX12, "layFits", "(I)V"⟩
abbrev cX12_oneFits : ByteArray := prog_14_method_107_code
def yX12_oneFits : MethodName := ⟨RX12, "oneFits", "(III)V"⟩
abbrev cX12_fits : ByteArray := prog_14_method_108_code
def yX12_fits : MethodName := ⟨RX12, "fits", "()I"⟩
abbrev cX12_fit : ByteArray := prog_14_method_109_code
def yX12_fit : MethodName := ⟨RX12, "fit", "(II)I"⟩
abbrev cX12_sure : ByteArray := prog_14_method_110_code
def yX12_sure : MethodName := ⟨RX12, "sure", "(I)I"⟩
abbrev cX12_chance : ByteArray := prog_14_method_111_code
def yX12_chance : MethodName := ⟨RX12, "chance", "(I)I"⟩
abbrev cX12_tried : ByteArray := prog_14_method_112_code
def yX12_tried : MethodName := ⟨RX12, "tried", "(III)I"⟩
abbrev cX12_undo : ByteArray := prog_14_method_113_code
def yX12_undo : MethodName := ⟨RX12, "undo", "()I"⟩
abbrev cX12_keep : ByteArray := prog_14_method_114_code
def yX12_keep : MethodName := ⟨RX12, "keep", "()I"⟩
abbrev cX12_back : ByteArray := prog_14_method_115_code
def yX12_back : MethodName := ⟨RX12, "back", "()I"⟩
abbrev cX12_count : ByteArray := prog_14_method_116_code
def yX12_count : MethodName := ⟨RX12, "count", "(I)I"⟩
def RJ9 : String := "java/lang/Math"
abbrev cJ9_floorDiv_7cf53 : ByteArray := prog_20_method_47_code
def yJ9_floorDiv_7cf53 : MethodName := ⟨RJ9, "floorDiv", "(II)I"⟩
abbrev cJ9_abs_0f7a4 : ByteArray := prog_20_method_59_code
def yJ9_abs_0f7a4 : MethodName := ⟨RJ9, "abs", "(I)I"⟩
abbrev cJ9_abs_067f4 : ByteArray := prog_20_method_61_code
def yJ9_abs_067f4 : MethodName := ⟨RJ9, "abs", "(J)J"⟩
abbrev cJ9_max_7cf53 : ByteArray := prog_20_method_65_code
def yJ9_max_7cf53 : MethodName := ⟨RJ9, "max", "(II)I"⟩
abbrev cJ9_max_f86c9 : ByteArray := prog_20_method_66_code
def yJ9_max_f86c9 : MethodName := ⟨RJ9, "max", "(JJ)J"⟩
abbrev cJ9_min_7cf53 : ByteArray := prog_20_method_69_code
def yJ9_min_7cf53 : MethodName := ⟨RJ9, "min", "(II)I"⟩
abbrev cJ9_min_f86c9 : ByteArray := prog_20_method_70_code
def yJ9_min_f86c9 : MethodName := ⟨RJ9, "min", "(JJ)J"⟩
def RJ0 : String := "java/lang/String"
abbrev cJ0_length_8abf5 : ByteArray := prog_22_method_54_code
def yJ0_length_8abf5 : MethodName := ⟨RJ0, "length", "()I"⟩
abbrev cJ0_charAt_5068e : ByteArray := prog_22_method_56_code
def yJ0_charAt_5068e : MethodName := ⟨RJ0, "charAt", "(I)C"⟩
abbrev cJ0_coder_7d493 : ByteArray := prog_22_method_152_code
def yJ0_coder_7d493 : MethodName := ⟨RJ0, "coder", "()B"⟩
abbrev cJ0_isLatin1_aae02 : ByteArray := prog_22_method_154_code
def yJ0_isLatin1_aae02 : MethodName := ⟨RJ0, "isLatin1", "()Z"⟩
abbrev cJ0_checkIndex_df160 : ByteArray := prog_22_method_155_code
def yJ0_checkIndex_df160 : MethodName := ⟨RJ0, "checkIndex", "(II)V"⟩
def RJ1 : String := "java/lang/StringLatin1"
abbrev cJ1_charAt_3b067 : ByteArray := prog_23_method_2_code
def yJ1_charAt_3b067 : MethodName := ⟨RJ1, "charAt", "([BI)C"⟩
def RJ3 : String := "jdk/internal/util/Preconditions"
abbrev cJ3_checkIndex_8e157 : ByteArray := prog_30_method_11_code
def yJ3_checkIndex_8e157 : MethodName := ⟨RJ3, "checkIndex", "(IILjava/util/function/BiFunction;)I"⟩
def RL : String := "UphillCartsLaw"
abbrev cL_look : ByteArray := method_3_code
def yL_look : MethodName := ⟨RL, "look", "(LUphillCarts;II[J)I"⟩
abbrev cL_law : ByteArray := code
def yL_law : MethodName := ⟨RL, "law", "([I)Z"⟩
abbrev vwCl : List vw_C := [(RX0, TX0, 4), (RX1, TX1, 6), (RX2, TX2, 8), (RX3, TX3, 8), (RX4, TX4, 4), (RX5, TX5, 2), (RX6, TX6, 9), (RX7, TX7, 11), (RX8, TX8, 18), (RX9, TX9, 8), (RX10, TX10, 7), (RX11, TX11, 19), (RX12, TX12, 76)]
end
section
/-! THE PROGRAM AS TABLES (by program, wip/p1/mk.py, out of the printed names). -/
abbrev pEn : Type := Nat × Instr × Nat × Nat
abbrev pMe : Type := Nat × MethodName × ByteArray × Nat × Option FieldType × Nat
def pR : Nat → String := fun c => match c with
  | 0 => RX0
  | 1 => RX1
  | 2 => RX2
  | 3 => RX3
  | 4 => RX4
  | 5 => RX5
  | 6 => RX6
  | 7 => RX7
  | 8 => RX8
  | 9 => RX9
  | 10 => RX10
  | 11 => RX11
  | 12 => RX12
  | 13 => RJ9
  | 14 => RJ0
  | 15 => RJ1
  | _ => RJ3
def pT : Nat → u_T := fun c => match c with
  | 0 => TX0
  | 1 => TX1
  | 2 => TX2
  | 3 => TX3
  | 4 => TX4
  | 5 => TX5
  | 6 => TX6
  | 7 => TX7
  | 8 => TX8
  | 9 => TX9
  | 10 => TX10
  | 11 => TX11
  | 12 => TX12
  | _ => TX12
def pTy : Nat → (Nat → FieldType) := fun c => match c with
  | 0 => tyX0
  | 1 => tyX1
  | 2 => tyX2
  | 3 => tyX3
  | 4 => tyX4
  | 5 => tyX5
  | 6 => tyX6
  | 7 => tyX7
  | 8 => tyX8
  | 9 => tyX9
  | 10 => tyX10
  | 11 => tyX11
  | 12 => tyX12
  | _ => tyX12
def pN : Nat → Nat := fun c => match c with
  | 0 => 4
  | 1 => 6
  | 2 => 8
  | 3 => 8
  | 4 => 4
  | 5 => 2
  | 6 => 9
  | 7 => 11
  | 8 => 18
  | 9 => 8
  | 10 => 7
  | 11 => 19
  | 12 => 76
  | _ => 0
theorem goodIn_up {big b2 ws : List Cond} (h : ∀ w ∈ b2, w ∈ big) (hg : GoodIn b2 ws) : GoodIn big ws := fun w hw => ⟨h w (hg w hw).1, (hg w hw).2⟩
theorem goodIn_ma {α : Type} {big : List Cond} {a b : List α} {f : α → Cond} (ha : GoodIn big (a.map f)) (hb : GoodIn big (b.map f)) : GoodIn big ((a ++ b).map f) := by
  rw [List.map_append]
  exact goodIn_app ha hb
theorem gi_c {big l : List Cond} {a : Cond} (h : a ∈ big) (hg : goodWord a = true) (t : GoodIn big l) : GoodIn big (a :: l) := fun w hw => (List.mem_cons.mp hw).elim (fun e => e ▸ ⟨h, good_of_word hg⟩) (t w)
theorem gi_n {big : List Cond} : GoodIn big [] := fun _ h => nomatch h
theorem pt_0 : ∀ w ∈ k2_sels lw_privs, w ∈ lw_tbl := fun _ h => List.mem_append_left _ h
theorem pt_1 : ∀ w ∈ tables_1_1, w ∈ lw_tbl := fun _ h => List.mem_append_right _ (List.mem_append_left _ h)
theorem pt_2 : ∀ w ∈ tables_1_2, w ∈ lw_tbl := fun _ h => List.mem_append_right _ (List.mem_append_right _ (List.mem_append_left _ h))
theorem pt_3 : ∀ w ∈ tables_1_3, w ∈ lw_tbl := fun _ h => List.mem_append_right _ (List.mem_append_right _ (List.mem_append_right _ (List.mem_append_left _ h)))
theorem pt_4 : ∀ w ∈ tables_1_4, w ∈ lw_tbl := fun _ h => List.mem_append_right _ (List.mem_append_right _ (List.mem_append_right _ (List.mem_append_right _ (List.mem_append_left _ h))))
theorem pt_5 : ∀ w ∈ tables_1_5, w ∈ lw_tbl := fun _ h => List.mem_append_right _ (List.mem_append_right _ (List.mem_append_right _ (List.mem_append_right _ (List.mem_append_right _ (List.mem_append_left _ h)))))
theorem pt_6 : ∀ w ∈ tables_1_6, w ∈ lw_tbl := fun _ h => List.mem_append_right _ (List.mem_append_right _ (List.mem_append_right _ (List.mem_append_right _ (List.mem_append_right _ (List.mem_append_right _ (List.mem_append_left _ h))))))
theorem pt_7 : ∀ w ∈ tables_1_7, w ∈ lw_tbl := fun _ h => List.mem_append_right _ (List.mem_append_right _ (List.mem_append_right _ (List.mem_append_right _ (List.mem_append_right _ (List.mem_append_right _ (List.mem_append_right _ (List.mem_append_left _ h)))))))
theorem pt_8 : ∀ w ∈ tables_1_8, w ∈ lw_tbl := fun _ h => List.mem_append_right _ (List.mem_append_right _ (List.mem_append_right _ (List.mem_append_right _ (List.mem_append_right _ (List.mem_append_right _ (List.mem_append_right _ (List.mem_append_right _ (List.mem_append_left _ h))))))))
theorem pt_9 : ∀ w ∈ tables_1_9, w ∈ lw_tbl := fun _ h => List.mem_append_right _ (List.mem_append_right _ (List.mem_append_right _ (List.mem_append_right _ (List.mem_append_right _ (List.mem_append_right _ (List.mem_append_right _ (List.mem_append_right _ (List.mem_append_right _ (h)))))))))
def pMs_0 : List pMe := [(11, yX11_init, cX11_init, 1, none, 0), (8, yX8_init, cX8_init, 2, none, 0), (5, yX5_init, cX5_init, 1, none, 0),
  (1, yX1_init, cX1_init, 1, none, 0), (4, yX4_init, cX4_init, 1, none, 0), (8, yX8_empty, cX8_empty, 2, none, 0),
  (7, yX7_init, cX7_init, 3, none, 2)]
def pMs_1 : List pMe := [(10, yX10_init, cX10_init, 5, none, 1), (14, yJ0_length_8abf5, cJ0_length_8abf5, 1, (some .int), 0), (14, yJ0_coder_7d493, cJ0_coder_7d493, 1, (some .byte), 0),
  (14, yJ0_charAt_5068e, cJ0_charAt_5068e, 2, (some .char), 1), (14, yJ0_isLatin1_aae02, cJ0_isLatin1_aae02, 1, (some .boolean), 0), (15, yJ1_charAt_3b067, cJ1_charAt_3b067, 2, (some .char), 2),
  (14, yJ0_checkIndex_df160, cJ0_checkIndex_df160, 2, none, 2), (16, yJ3_checkIndex_8e157, cJ3_checkIndex_8e157, 3, (some .int), 3), (10, yX10_lettersOf, cX10_lettersOf, 5, (some .int), 2),
  (3, yX3_init, cX3_init, 2, none, 1), (6, yX6_init, cX6_init, 2, none, 1), (0, yX0_init, cX0_init, 1, none, 0)]
def pMs_2 : List pMe := [(9, yX9_init, cX9_init, 1, none, 0)]
def pMs_3 : List pMe := [(2, yX2_init, cX2_init, 1, none, 0), (11, yX11_begin, cX11_begin, 1, none, 0), (3, yX3_ofRoad, cX3_ofRoad, 6, none, 4),
  (2, yX2_start, cX2_start, 3, none, 1), (9, yX9_forgetAll, cX9_forgetAll, 1, none, 0), (11, yX11_feed, cX11_feed, 6, (some .int), 5),
  (11, yX11_addBytes, cX11_addBytes, 2, none, 1), (11, yX11_text, cX11_text, 4, (some .int), 1), (7, yX7_parse, cX7_parse, 4, (some .boolean), 2),
  (10, yX10_begin, cX10_begin, 2, none, 1), (13, yJ9_min_7cf53, cJ9_min_7cf53, 2, (some .int), 2), (10, yX10_step, cX10_step, 1, none, 0)]
def pMs_4 : List pMe := [(10, yX10_isLetter, cX10_isLetter, 1, (some .boolean), 1), (10, yX10_readWord, cX10_readWord, 2, none, 0), (10, yX10_kindOf, cX10_kindOf, 3, (some .int), 1),
  (10, yX10_isDigit, cX10_isDigit, 1, (some .boolean), 1), (10, yX10_readNumber, cX10_readNumber, 2, none, 0), (10, yX10_signOf, cX10_signOf, 1, (some .int), 1),
  (10, yX10_readSecondSign, cX10_readSecondSign, 1, none, 0), (7, yX7_readLine, cX7_readLine, 1, (some .boolean), 0), (7, yX7_isBelow, cX7_isBelow, 3, (some .boolean), 2),
  (7, yX7_fails, cX7_fails, 2, (some .boolean), 1), (7, yX7_readBend, cX7_readBend, 2, (some .boolean), 0), (8, yX8_findBend, cX8_findBend, 3, (some .int), 1)]
def pMs_5 : List pMe := [(7, yX7_isNewName, cX7_isNewName, 2, (some .boolean), 1), (7, yX7_takesNumber, cX7_takesNumber, 3, (some .boolean), 2), (7, yX7_readWind, cX7_readWind, 2, (some .boolean), 0),
  (7, yX7_readGoods, cX7_readGoods, 2, (some .boolean), 0), (8, yX8_findGoods, cX8_findGoods, 3, (some .int), 1), (7, yX7_readBag, cX7_readBag, 2, (some .boolean), 0),
  (8, yX8_findSort, cX8_findSort, 3, (some .int), 1), (7, yX7_readDepot, cX7_readDepot, 2, (some .boolean), 0), (7, yX7_bendToldAhead, cX7_bendToldAhead, 3, (some .int), 1),
  (7, yX7_readThief, cX7_readThief, 2, (some .boolean), 0)]
def pMs_6 : List pMe := [(7, yX7_isToldOnce, cX7_isToldOnce, 2, (some .boolean), 0), (7, yX7_readWarm, cX7_readWarm, 2, (some .boolean), 0), (7, yX7_readHorse, cX7_readHorse, 1, (some .boolean), 0),
  (7, yX7_readRope, cX7_readRope, 1, (some .boolean), 0), (7, yX7_readStone, cX7_readStone, 1, (some .boolean), 0), (7, yX7_readSeed, cX7_readSeed, 1, (some .boolean), 0),
  (7, yX7_readLaw, cX7_readLaw, 4, (some .boolean), 0), (5, yX5_isTold, cX5_isTold, 1, (some .boolean), 0), (7, yX7_takesValue, cX7_takesValue, 3, (some .boolean), 1),
  (5, yX5_add, cX5_add, 2, none, 1), (7, yX7_isOneKnotMore, cX7_isOneKnotMore, 1, (some .boolean), 0), (7, yX7_push, cX7_push, 2, none, 1)]
def pMs_7 : List pMe := [(7, yX7_rankOnTop, cX7_rankOnTop, 1, (some .int), 0), (7, yX7_rankOf, cX7_rankOf, 1, (some .int), 1), (7, yX7_settle, cX7_settle, 3, none, 2),
  (7, yX7_takesSign, cX7_takesSign, 3, (some .boolean), 1), (11, yX11_fault, cX11_fault, 2, (some .int), 1), (11, yX11_named, cX11_named, 3, (some .int), 2),
  (11, yX11_goods, cX11_goods, 4, (some .int), 2), (11, yX11_isGoods, cX11_isGoods, 2, (some .boolean), 1), (11, yX11_bag, cX11_bag, 3, (some .int), 2),
  (11, yX11_isSort, cX11_isSort, 2, (some .boolean), 1), (11, yX11_lift, cX11_lift, 4, (some .int), 3), (11, yX11_isBend, cX11_isBend, 2, (some .boolean), 1)]
def pMs_8 : List pMe := [(11, yX11_isHour, cX11_isHour, 1, (some .boolean), 1), (3, yX3_lifted, cX3_lifted, 8, (some .int), 3), (3, yX3_worked, cX3_worked, 6, (some .long), 4),
  (13, yJ9_abs_0f7a4, cJ9_abs_0f7a4, 1, (some .int), 1), (8, yX8_slopeTo, cX8_slopeTo, 2, (some .int), 1), (13, yJ9_max_7cf53, cJ9_max_7cf53, 2, (some .int), 2),
  (5, yX5_work, cX5_work, 8, (some .long), 2), (5, yX5_joined, cX5_joined, 5, (some .long), 3), (13, yJ9_min_f86c9, cJ9_min_f86c9, 4, (some .long), 2),
  (13, yJ9_max_f86c9, cJ9_max_f86c9, 4, (some .long), 2), (11, yX11_pull, cX11_pull, 3, (some .int), 2), (3, yX3_pulled, cX3_pulled, 7, (some .int), 2)]
def pMs_9 : List pMe := [(11, yX11_net, cX11_net, 3, (some .int), 2), (2, yX2_weighs, cX2_weighs, 2, (some .int), 1), (8, yX8_weightOf, cX8_weightOf, 4, (some .int), 1),
  (3, yX3_bagsLift, cX3_bagsLift, 7, (some .int), 3), (11, yX11_law, cX11_law, 5, (some .long), 4), (11, yX11_load, cX11_load, 3, (some .boolean), 2),
  (11, yX11_canBeLoaded, cX11_canBeLoaded, 1, (some .boolean), 0), (11, yX11_remember, cX11_remember, 2, none, 0), (11, yX11_tie, cX11_tie, 4, (some .boolean), 2),
  (11, yX11_stones, cX11_stones, 2, (some .boolean), 1), (11, yX11_at, cX11_at, 2, (some .boolean), 1), (11, yX11_go, cX11_go, 3, (some .int), 1)]
def pMs_10 : List pMe := [(11, yX11_hasWays, cX11_hasWays, 1, (some .boolean), 0), (2, yX2_hourGoesBy, cX2_hourGoesBy, 6, none, 2), (2, yX2_meetThief, cX2_meetThief, 3, none, 1),
  (11, yX11_trade, cX11_trade, 3, (some .int), 1), (11, yX11_led, cX11_led, 4, (some .int), 2), (3, yX3_wayFrom, cX3_wayFrom, 7, (some .int), 3),
  (11, yX11_when, cX11_when, 1, (some .int), 0)]
def pMs_11 : List pMe := [(11, yX11_hoursUp, cX11_hoursUp, 4, (some .int), 0), (11, yX11_span, cX11_span, 7, (some .int), 1), (11, yX11_rowFrom, cX11_rowFrom, 3, (some .int), 2),
  (11, yX11_most, cX11_most, 3, (some .int), 2), (6, yX6_leaveThoseUp, cX6_leaveThoseUp, 9, none, 3), (6, yX6_leaveAll, cX6_leaveAll, 4, none, 1),
  (8, yX8_hasBags, cX8_hasBags, 4, (some .boolean), 1), (6, yX6_isLeft, cX6_isLeft, 2, (some .boolean), 1), (6, yX6_narrow, cX6_narrow, 4, none, 3),
  (6, yX6_findBest, cX6_findBest, 7, (some .boolean), 0), (8, yX8_gainOf, cX8_gainOf, 4, (some .int), 1), (4, yX4_gain, cX4_gain, 1, (some .int), 0)]
def pMs_12 : List pMe := [(6, yX6_howManyStones, cX6_howManyStones, 3, (some .int), 2), (6, yX6_mostStones, cX6_mostStones, 3, (some .int), 2), (13, yJ9_floorDiv_7cf53, cJ9_floorDiv_7cf53, 3, (some .int), 2),
  (6, yX6_fewestStones, cX6_fewestStones, 3, (some .int), 2), (11, yX11_ballast, cX11_ballast, 2, (some .int), 1), (0, yX0_plan, cX0_plan, 11, (some .int), 4),
  (0, yX0_mostBehind, cX0_mostBehind, 3, (some .int), 3), (0, yX0_choose, cX0_choose, 10, (some .int), 5), (0, yX0_costOf, cX0_costOf, 4, (some .int), 3),
  (0, yX0_follow, cX0_follow, 7, (some .int), 3), (11, yX11_behind, cX11_behind, 3, (some .int), 2), (11, yX11_ropes, cX11_ropes, 7, (some .int), 1)]
def pMs_13 : List pMe := [(11, yX11_meet, cX11_meet, 5, (some .int), 3), (11, yX11_meetingBend, cX11_meetingBend, 5, (some .int), 2), (11, yX11_waits, cX11_waits, 5, (some .int), 2),
  (11, yX11_worth, cX11_worth, 6, (some .int), 2), (11, yX11_toll, cX11_toll, 3, (some .int), 1), (6, yX6_priceForNone, cX6_priceForNone, 4, (some .int), 0),
  (6, yX6_canBeCarried, cX6_canBeCarried, 3, (some .boolean), 1), (11, yX11_lands, cX11_lands, 4, (some .int), 1), (8, yX8_windAt, cX8_windAt, 5, (some .int), 1),
  (11, yX11_see, cX11_see, 5, (some .int), 4), (9, yX9_add, cX9_add, 5, (some .int), 4), (11, yX11_strike, cX11_strike, 2, (some .int), 1)]
def pMs_14 : List pMe := [(9, yX9_addStrike, cX9_addStrike, 2, (some .int), 1), (11, yX11_known, cX11_known, 2, (some .boolean), 1), (11, yX11_fits, cX11_fits, 1, (some .int), 0),
  (6, yX6_leaveThoseThatFit, cX6_leaveThoseThatFit, 7, none, 3), (9, yX9_findStruck, cX9_findStruck, 2, none, 0), (9, yX9_knownBy, cX9_knownBy, 1, (some .int), 0),
  (9, yX9_isStrike, cX9_isStrike, 2, (some .boolean), 1), (6, yX6_howMany, cX6_howMany, 5, (some .int), 1), (11, yX11_fit, cX11_fit, 3, (some .int), 2),
  (6, yX6_findNumbered, cX6_findNumbered, 6, (some .boolean), 1), (11, yX11_sure, cX11_sure, 4, (some .int), 1), (11, yX11_chance, cX11_chance, 7, (some .int), 1)]
def pMs_15 : List pMe := [(2, yX2_becomes, cX2_becomes, 2, none, 1), (11, yX11_tried, cX11_tried, 4, (some .int), 3), (11, yX11_isTrial, cX11_isTrial, 3, (some .boolean), 2),
  (11, yX11_undo, cX11_undo, 2, (some .int), 0), (11, yX11_keep, cX11_keep, 1, (some .int), 0), (11, yX11_back, cX11_back, 1, (some .int), 0),
  (11, yX11_count, cX11_count, 2, (some .int), 1), (2, yX2_stonesAtDepots, cX2_stonesAtDepots, 3, (some .int), 0)]
def pMs_16 : List pMe := [(11, yX11_look, cX11_look, 4, (some .int), 2), (12, yX12_init, cX12_init, 1, none, 0), (12, yX12_begins, cX12_begins, 2, none, 0)]
def pMs_17 : List pMe := [(12, yX12_feed, cX12_feed, 8, (some .int), 5), (12, yX12_text, cX12_text, 3, (some .int), 1), (12, yX12_reads, cX12_reads, 3, none, 2),
  (12, yX12_token, cX12_token, 2, none, 0), (12, yX12_here, cX12_here, 1, (some .int), 0), (12, yX12_isSmall, cX12_isSmall, 1, (some .boolean), 1),
  (12, yX12_word, cX12_word, 4, (some .int), 0), (12, yX12_name, cX12_name, 2, none, 0), (12, yX12_isDigit, cX12_isDigit, 1, (some .boolean), 1),
  (12, yX12_sign, cX12_sign, 2, none, 1), (12, yX12_line, cX12_line, 6, none, 0), (12, yX12_wrong, cX12_wrong, 2, none, 1)]
def pMs_18 : List pMe := [(12, yX12_isFull, cX12_isFull, 2, (some .boolean), 1), (12, yX12_fresher, cX12_fresher, 2, (some .int), 1), (12, yX12_bendLine, cX12_bendLine, 4, none, 1),
  (12, yX12_fresh, cX12_fresh, 5, (some .int), 3), (12, yX12_found, cX12_found, 5, (some .int), 4), (12, yX12_numeral, cX12_numeral, 4, (some .int), 2),
  (12, yX12_isWord, cX12_isWord, 2, (some .boolean), 1), (12, yX12_isSign, cX12_isSign, 2, (some .boolean), 1), (12, yX12_bendAtHand, cX12_bendAtHand, 3, (some .int), 1),
  (12, yX12_goOn, cX12_goOn, 1, none, 0), (12, yX12_warmLine, cX12_warmLine, 3, none, 0), (12, yX12_lawLine, cX12_lawLine, 2, none, 0)]
def pMs_19 : List pMe := [(12, yX12_expression, cX12_expression, 1, none, 0), (12, yX12_conjunction, cX12_conjunction, 1, none, 0), (12, yX12_negation, cX12_negation, 2, none, 0),
  (12, yX12_knot, cX12_knot, 1, none, 0), (12, yX12_puts, cX12_puts, 3, none, 2), (12, yX12_sum, cX12_sum, 2, none, 0),
  (12, yX12_product, cX12_product, 2, none, 0), (12, yX12_primary, cX12_primary, 2, none, 0), (12, yX12_half, cX12_half, 3, none, 1),
  (12, yX12_fault, cX12_fault, 2, (some .int), 1), (12, yX12_named, cX12_named, 3, (some .int), 2), (12, yX12_look, cX12_look, 3, (some .int), 2)]
def pMs_20 : List pMe := [(12, yX12_isBend, cX12_isBend, 2, (some .boolean), 1)]
def pMs_21 : List pMe := [(12, yX12_slopeTo, cX12_slopeTo, 2, (some .int), 1), (12, yX12_goods, cX12_goods, 3, (some .int), 2), (12, yX12_isGoods, cX12_isGoods, 2, (some .boolean), 1),
  (12, yX12_bag, cX12_bag, 3, (some .int), 2), (12, yX12_isSort, cX12_isSort, 2, (some .boolean), 1), (12, yX12_lift, cX12_lift, 4, (some .int), 3),
  (12, yX12_isHour, cX12_isHour, 1, (some .boolean), 1), (12, yX12_liftOf, cX12_liftOf, 4, (some .int), 3), (12, yX12_calls, cX12_calls, 4, none, 3),
  (12, yX12_within, cX12_within, 4, (some .int), 3), (12, yX12_hasLaw, cX12_hasLaw, 2, (some .boolean), 1), (12, yX12_goes, cX12_goes, 3, (some .boolean), 1)]
def pMs_22 : List pMe := [(12, yX12_works, cX12_works, 8, (some .boolean), 1), (12, yX12_is, cX12_is, 1, (some .long), 1), (13, yJ9_abs_067f4, cJ9_abs_067f4, 2, (some .long), 1),
  (12, yX12_pull, cX12_pull, 3, (some .int), 2), (12, yX12_pullOf, cX12_pullOf, 3, (some .int), 2), (12, yX12_strong, cX12_strong, 1, (some .int), 0),
  (12, yX12_net, cX12_net, 3, (some .int), 2), (12, yX12_layLaws, cX12_layLaws, 4, none, 0), (12, yX12_netOf, cX12_netOf, 8, (some .int), 5),
  (12, yX12_law, cX12_law, 5, (some .long), 4), (12, yX12_load, cX12_load, 3, (some .boolean), 2), (12, yX12_isBelow, cX12_isBelow, 1, (some .boolean), 0)]
def pMs_23 : List pMe := [(12, yX12_keepNow, cX12_keepNow, 2, none, 0), (12, yX12_copies, cX12_copies, 4, none, 2), (12, yX12_tie, cX12_tie, 3, (some .boolean), 2),
  (12, yX12_stones, cX12_stones, 2, (some .boolean), 1), (12, yX12_at, cX12_at, 2, (some .boolean), 1), (12, yX12_go, cX12_go, 3, (some .int), 1),
  (12, yX12_passes, cX12_passes, 4, none, 1), (12, yX12_netAt, cX12_netAt, 4, (some .int), 3), (12, yX12_draw, cX12_draw, 2, (some .int), 1),
  (12, yX12_cuts, cX12_cuts, 3, none, 1), (12, yX12_trade, cX12_trade, 3, (some .int), 1), (12, yX12_led, cX12_led, 4, (some .int), 2)]
def pMs_24 : List pMe := [(12, yX12_isFrom, cX12_isFrom, 2, (some .boolean), 1), (12, yX12_wayNow, cX12_wayNow, 2, (some .int), 1), (12, yX12_way, cX12_way, 9, (some .int), 5),
  (12, yX12_when, cX12_when, 1, (some .int), 0), (12, yX12_whenUp, cX12_whenUp, 3, (some .int), 0), (12, yX12_span, cX12_span, 7, (some .int), 1),
  (12, yX12_most, cX12_most, 3, (some .int), 2), (12, yX12_layMost, cX12_layMost, 7, none, 1), (12, yX12_gainOf, cX12_gainOf, 4, (some .int), 1),
  (12, yX12_poundsOf, cX12_poundsOf, 4, (some .int), 1), (12, yX12_areBags, cX12_areBags, 3, (some .boolean), 1), (12, yX12_toll, cX12_toll, 2, (some .int), 1)]
def pMs_25 : List pMe := [(12, yX12_ballast, cX12_ballast, 2, (some .int), 1), (12, yX12_layBallast, cX12_layBallast, 6, none, 1), (12, yX12_changesBy, cX12_changesBy, 5, (some .int), 4),
  (12, yX12_comesOn, cX12_comesOn, 5, (some .boolean), 3), (12, yX12_isHeld, cX12_isHeld, 4, (some .boolean), 3), (12, yX12_behind, cX12_behind, 6, (some .int), 2),
  (12, yX12_ropes, cX12_ropes, 4, (some .int), 1), (12, yX12_meet, cX12_meet, 5, (some .int), 3), (12, yX12_isMeet, cX12_isMeet, 3, (some .boolean), 2),
  (12, yX12_meetOf, cX12_meetOf, 7, (some .int), 2)]
def pMs_26 : List pMe := [(12, yX12_waits, cX12_waits, 5, (some .int), 2), (12, yX12_worth, cX12_worth, 4, (some .int), 2), (12, yX12_lands, cX12_lands, 6, (some .int), 1),
  (12, yX12_see, cX12_see, 5, (some .int), 4), (12, yX12_strike, cX12_strike, 2, (some .int), 1), (12, yX12_known, cX12_known, 2, (some .boolean), 1),
  (12, yX12_fits, cX12_fits, 1, (some .int), 0), (12, yX12_layFits, cX12_layFits, 5, none, 1), (12, yX12_knownMany, cX12_knownMany, 1, (some .int), 0),
  (12, yX12_fitsBy, cX12_fitsBy, 6, (some .boolean), 3), (12, yX12_oneFits, cX12_oneFits, 4, none, 3), (12, yX12_fit, cX12_fit, 3, (some .int), 2)]
def pMs_27 : List pMe := [(12, yX12_sure, cX12_sure, 2, (some .int), 1), (12, yX12_chance, cX12_chance, 6, (some .int), 1), (12, yX12_tried, cX12_tried, 7, (some .int), 3),
  (12, yX12_undo, cX12_undo, 1, (some .int), 0), (12, yX12_keep, cX12_keep, 1, (some .int), 0), (12, yX12_back, cX12_back, 1, (some .int), 0),
  (12, yX12_count, cX12_count, 4, (some .int), 1)]
def pMs : List pMe := pMs_0 ++ (pMs_1 ++ (pMs_2 ++ (pMs_3 ++ (pMs_4 ++ (pMs_5 ++ (pMs_6 ++ (pMs_7 ++ (pMs_8 ++ (pMs_9 ++ (pMs_10 ++ (pMs_11 ++ (pMs_12 ++ (pMs_13 ++ (pMs_14 ++ (pMs_15 ++ (pMs_16 ++ (pMs_17 ++ (pMs_18 ++ (pMs_19 ++ (pMs_20 ++ (pMs_21 ++ (pMs_22 ++ (pMs_23 ++ (pMs_24 ++ (pMs_25 ++ (pMs_26 ++ (pMs_27)))))))))))))))))))))))))))
def pMt (K : Nat) : pMe := pMs.getD K (0, yX0_init, cX0_init, 1, none, 0)
def pMy (K : Nat) : MethodName := (pMt K).2.1
def pHost : String := "UphillCarts"
def pWm (M : pMe) : Cond := .code M.2.1 M.2.2.1 M.2.2.2.1 M.2.2.2.2.1
def pWf (q : Nat × Nat × Nat) : Cond := .fieldLink (pR q.1) q.2.1 (pT (q.2.2 / 100) (q.2.2 % 100)).1 (pT (q.2.2 / 100) (q.2.2 % 100)).2.1 (pT (q.2.2 / 100) (q.2.2 % 100)).2.2.1
def pWy (n : Nat) : MethodName := if n / 1000 = 4 then objectInit else if n / 1000 = 5 then arraycopyName else pMy (n % 1000)
def pWc (q : Nat × Nat × Nat) : Cond := .methodLink (pR q.1) q.2.1 (pWy q.2.2)
def pWj (K : Nat) : Cond := .instanceMethod (pMy K)
def pWs (K : Nat) : Cond := .selects (pMy K).cls (pMy K) (pMy K)
def pWt (K : Nat) : Cond := .static (pMy K)
def pWk (q : Nat × Nat × Int32) : Cond := .constant (pR q.1) q.2.1 q.2.2
def pWl (q : Nat × Nat × Int64) : Cond := .constantLong (pR q.1) q.2.1 q.2.2
def pWn (q : Nat × Nat × Nat) : Cond := .classLink (pR q.1) q.2.1 (pR q.2.2)
def pWa (q : Nat × Nat × Nat) : Cond := .classLink (pR q.1) q.2.1 (if q.2.2 = 24 then RX1 else RX4)
def pWi (c : Nat) : Cond := .instantiable (pR c) (pN c)
def pWz (c : Nat) : Cond := .initialized (pR c)
def pWu (q : Nat × Nat) : Cond := u_lay (pR q.1) (pT q.1) q.2
def pWx (t : FieldType) : Cond := .arrayClass t
/-- fields: class, pool entry, 100 * class + field; calls: class, pool entry, 1000 * kind + method -/
def pFs_0 : List (Nat × Nat × Nat) := [(5, 9, 500), (5, 15, 501), (8, 61, 501), (8, 85, 100), (7, 140, 100), (3, 46, 101), (8, 89, 101), (11, 152, 101), (7, 161, 101), (11, 157, 102), (7, 145, 102), (3, 56, 103),
  (11, 160, 103), (7, 149, 103), (8, 105, 103), (2, 50, 104), (7, 152, 104), (2, 85, 105), (11, 166, 105), (7, 155, 105), (8, 88, 400), (7, 171, 400), (8, 98, 401), (11, 184, 401),
  (7, 174, 401), (4, 13, 402), (11, 189, 402), (7, 177, 402), (4, 7, 403), (11, 192, 403), (7, 180, 403), (8, 11, 800), (2, 46, 800), (3, 40, 800), (11, 148, 800), (7, 129, 800),
  (8, 19, 801), (11, 180, 801), (7, 164, 801), (8, 23, 802)]
def pFs_1 : List (Nat × Nat × Nat) := [(7, 186, 802), (8, 27, 803), (3, 74, 803), (11, 201, 803), (7, 189, 803), (8, 30, 804), (11, 204, 804), (7, 192, 804), (8, 33, 805), (3, 53, 805), (7, 198, 805), (8, 39, 806),
  (3, 77, 806), (11, 233, 806), (7, 217, 806), (8, 43, 807), (3, 99, 807), (11, 247, 807), (7, 221, 807), (0, 24, 808), (8, 51, 808), (2, 43, 808), (7, 71, 808), (6, 63, 808),
  (3, 117, 808), (11, 313, 808), (8, 55, 809), (6, 25, 809), (7, 84, 809), (11, 378, 809), (8, 58, 810), (6, 34, 810), (7, 90, 810), (3, 104, 810), (11, 379, 810), (8, 64, 811),
  (3, 96, 811), (11, 250, 811), (7, 201, 811), (8, 67, 812)]
def pFs_2 : List (Nat × Nat × Nat) := [(0, 47, 812), (6, 78, 812), (2, 78, 812), (3, 114, 812), (7, 204, 812), (11, 316, 812), (8, 70, 813), (7, 207, 813), (11, 319, 813), (8, 73, 814), (0, 64, 814), (2, 65, 814),
  (6, 113, 814), (7, 210, 814), (2, 34, 815), (8, 76, 815), (7, 214, 815), (8, 79, 816), (7, 249, 816), (11, 382, 816), (8, 82, 817), (7, 67, 817), (11, 124, 817)]
def pFs_3 : List (Nat × Nat × Nat) := [(10, 15, 1000), (10, 9, 1001), (10, 40, 1002), (10, 43, 1003), (7, 53, 1004), (10, 52, 1004), (7, 123, 1005), (10, 75, 1005), (7, 70, 1006), (10, 49, 1006), (7, 20, 700), (7, 9, 701),
  (7, 229, 702), (7, 232, 703), (7, 24, 704), (7, 33, 705), (7, 37, 706), (7, 40, 707), (7, 126, 708), (7, 43, 709), (11, 119, 709), (7, 46, 710), (11, 123, 710), (3, 9, 300),
  (3, 15, 301), (3, 18, 302), (3, 22, 303), (3, 25, 304), (3, 29, 305), (3, 33, 306), (3, 36, 307), (6, 9, 600), (6, 15, 601), (6, 18, 602), (6, 21, 603), (6, 31, 604),
  (6, 37, 605), (6, 131, 606), (11, 300, 606), (6, 132, 607)]
def pFs_4 : List (Nat × Nat × Nat) := [(11, 304, 607), (6, 128, 608), (11, 305, 608), (0, 11, 0), (0, 15, 1), (0, 18, 2), (0, 21, 3), (11, 310, 3), (9, 9, 900), (6, 101, 900), (9, 15, 901), (6, 104, 901),
  (9, 18, 902), (6, 107, 902), (9, 21, 903), (6, 110, 903), (9, 24, 904), (6, 97, 904), (9, 28, 905), (9, 31, 906), (11, 341, 906), (9, 35, 907), (11, 344, 907)]
def pFs_5 : List (Nat × Nat × Nat) := [(2, 9, 200), (0, 79, 200), (11, 163, 200), (2, 15, 201), (0, 53, 201), (11, 195, 201), (2, 19, 202), (0, 30, 202), (11, 207, 202), (2, 22, 203), (0, 85, 203), (11, 259, 203),
  (2, 25, 204), (11, 275, 204), (2, 28, 205), (11, 262, 205), (2, 31, 206), (11, 272, 206), (2, 39, 207), (11, 361, 207), (11, 11, 1100), (11, 108, 1101), (11, 122, 1102), (11, 15, 1103),
  (11, 34, 1104), (11, 22, 1105), (11, 26, 1106), (11, 43, 1107), (11, 47, 1108), (11, 53, 1109), (11, 60, 1110), (11, 67, 1111), (11, 74, 1112), (11, 78, 1113), (11, 81, 1114), (11, 101, 1115),
  (11, 375, 1116), (11, 84, 1117), (11, 105, 1118)]
def pFs_6 : List (Nat × Nat × Nat) := [(12, 144, 1200), (12, 9, 1201), (12, 147, 1202), (12, 15, 1203), (12, 18, 1204), (12, 21, 1205), (12, 24, 1206), (12, 28, 1207), (12, 31, 1208), (12, 34, 1209), (12, 37, 1210), (12, 40, 1211),
  (12, 43, 1212), (12, 46, 1213), (12, 49, 1214), (12, 52, 1215), (12, 55, 1216), (12, 58, 1217), (12, 61, 1218), (12, 64, 1219), (12, 67, 1220), (12, 70, 1221), (12, 221, 1222), (12, 239, 1223),
  (12, 245, 1224), (12, 257, 1225), (12, 153, 1226), (12, 150, 1227), (12, 160, 1228), (12, 163, 1229), (12, 173, 1230), (12, 198, 1231), (12, 201, 1232), (12, 299, 1233), (12, 73, 1234), (12, 293, 1235),
  (12, 269, 1236), (12, 77, 1237), (12, 80, 1238), (12, 83, 1239)]
def pFs_7 : List (Nat × Nat × Nat) := [(12, 86, 1240), (12, 89, 1241), (12, 92, 1242), (12, 95, 1243), (12, 98, 1244), (12, 309, 1245), (12, 313, 1246), (12, 101, 1247), (12, 105, 1248), (12, 333, 1249), (12, 108, 1250), (12, 111, 1251),
  (12, 114, 1252), (12, 423, 1253), (12, 450, 1254), (12, 438, 1255), (12, 456, 1256), (12, 459, 1257), (12, 441, 1258), (12, 117, 1259), (12, 481, 1260), (12, 306, 1261), (12, 120, 1262), (12, 123, 1263),
  (12, 126, 1264), (12, 129, 1265), (12, 132, 1266), (12, 135, 1267), (12, 138, 1268), (12, 494, 1269), (12, 497, 1270), (12, 512, 1271), (12, 515, 1272), (12, 518, 1273), (12, 500, 1274), (12, 503, 1275)]
def pFs : List (Nat × Nat × Nat) := pFs_0 ++ (pFs_1 ++ (pFs_2 ++ (pFs_3 ++ (pFs_4 ++ (pFs_5 ++ (pFs_6 ++ (pFs_7)))))))
def pCs_0 : List (Nat × Nat × Nat) := [(11, 5, 4000), (11, 21, 2001), (8, 3, 4000), (5, 3, 4000), (1, 1, 4000), (4, 1, 4000), (8, 48, 5), (11, 31, 2006), (7, 3, 4000)]
def pCs_1 : List (Nat × Nat × Nat) := [(7, 17, 2007), (10, 3, 4000), (10, 21, 8), (14, 335, 9), (10, 27, 10), (14, 492, 11), (14, 495, 1012), (15, 9, 1013), (14, 1059, 1014), (10, 31, 1015), (11, 40, 2016), (3, 3, 4000),
  (11, 52, 2017), (6, 3, 4000), (0, 3, 4000), (9, 3, 4000)]
def pCs_2 : List (Nat × Nat × Nat) := [(2, 3, 4000), (11, 88, 21), (11, 91, 22), (11, 95, 23), (11, 98, 24), (11, 111, 26), (11, 115, 28), (7, 28, 5), (7, 49, 29), (10, 35, 1030), (10, 46, 31), (10, 55, 1032),
  (10, 59, 33), (10, 78, 34), (10, 62, 1035), (10, 65, 36), (10, 68, 1037), (10, 72, 38), (7, 56, 39), (7, 74, 40), (7, 60, 41), (7, 78, 42), (7, 64, 31), (7, 133, 43),
  (7, 137, 44), (7, 158, 45), (7, 81, 46), (7, 87, 47), (7, 168, 48), (7, 93, 49), (7, 183, 50), (7, 96, 51), (7, 195, 52), (7, 99, 53), (7, 102, 54)]
def pCs_3 : List (Nat × Nat × Nat) := [(7, 105, 55), (7, 108, 56), (7, 111, 57), (7, 114, 58), (7, 117, 59), (7, 120, 60), (7, 224, 61), (7, 235, 62), (7, 252, 63), (7, 255, 64), (7, 258, 65), (7, 261, 66),
  (7, 243, 1067), (7, 239, 68), (7, 246, 69), (11, 127, 43), (11, 131, 48), (11, 134, 50), (11, 177, 73), (11, 198, 75), (11, 137, 77), (11, 210, 1078), (11, 213, 79), (3, 81, 80),
  (3, 59, 1081), (3, 65, 82), (8, 92, 1083), (3, 68, 84), (5, 19, 1085), (3, 89, 1086), (3, 93, 1087), (11, 217, 89), (11, 224, 91), (2, 61, 92), (11, 228, 93), (3, 107, 79),
  (11, 237, 61), (11, 243, 80), (11, 253, 96), (11, 256, 97)]
def pCs_4 : List (Nat × Nat × Nat) := [(11, 369, 5000), (11, 265, 102), (11, 268, 103), (2, 68, 91), (2, 72, 93), (2, 81, 89), (2, 88, 104), (11, 278, 1030), (11, 283, 107), (3, 111, 93), (3, 120, 89)]
def pCs_5 : List (Nat × Nat × Nat) := [(11, 286, 109), (11, 290, 1111), (11, 293, 113), (6, 59, 114), (6, 40, 92), (6, 44, 115), (6, 66, 89), (6, 71, 116), (6, 74, 93), (6, 81, 117), (6, 50, 1083), (6, 56, 1030),
  (11, 297, 118), (6, 119, 119), (8, 101, 120), (6, 122, 121), (6, 138, 122), (6, 116, 1123), (6, 125, 124), (11, 301, 119), (11, 306, 126), (0, 35, 93), (0, 41, 1083), (0, 50, 89),
  (0, 56, 92), (0, 60, 1127), (0, 82, 1030), (0, 67, 128), (0, 72, 129), (0, 75, 130), (11, 322, 134), (11, 325, 120), (11, 328, 138), (6, 135, 139), (11, 331, 141), (11, 334, 143),
  (11, 338, 145), (11, 347, 148), (6, 85, 149), (9, 44, 150)]
def pCs_6 : List (Nat × Nat × Nat) := [(9, 38, 1030), (6, 90, 150), (6, 94, 151), (11, 351, 152), (11, 354, 154), (11, 357, 157), (2, 55, 5000), (11, 365, 159), (11, 385, 150), (11, 388, 164)]
def pCs_7 : List (Nat × Nat × Nat) := [(11, 169, 82), (12, 3, 4000), (12, 141, 167)]
def pCs_8 : List (Nat × Nat × Nat) := [(12, 235, 170), (12, 204, 171), (12, 156, 172), (12, 166, 1173), (12, 170, 174), (12, 189, 8), (12, 194, 10), (12, 176, 175), (12, 179, 1176), (12, 183, 177), (12, 296, 178), (12, 207, 179),
  (12, 218, 180), (12, 214, 181), (12, 224, 182), (12, 227, 183), (12, 210, 1184), (12, 231, 185), (12, 260, 186), (12, 254, 187), (12, 242, 188), (12, 263, 189), (12, 248, 190), (12, 251, 191),
  (12, 266, 192), (12, 272, 193), (12, 281, 194), (12, 275, 195), (12, 278, 196), (12, 284, 197), (12, 287, 198), (12, 290, 199), (12, 302, 1200), (12, 321, 204), (12, 324, 205)]
def pCs_9 : List (Nat × Nat × Nat) := [(12, 316, 1083), (12, 327, 207), (12, 330, 209), (12, 384, 1211), (12, 378, 212), (12, 367, 213), (12, 365, 1081), (12, 371, 214), (12, 351, 215), (12, 354, 216), (12, 348, 217), (12, 336, 1218),
  (12, 340, 1219), (12, 357, 1086), (12, 361, 1087), (12, 381, 221), (12, 375, 222), (12, 388, 224), (12, 391, 225), (12, 402, 228), (12, 406, 229), (12, 399, 230), (12, 420, 235), (12, 411, 236),
  (12, 414, 237), (12, 417, 238), (12, 429, 241), (12, 432, 242), (12, 426, 243), (12, 435, 245), (12, 462, 248), (12, 444, 249), (12, 447, 250), (12, 453, 251), (12, 478, 254), (12, 472, 255),
  (12, 469, 256), (12, 465, 257), (12, 476, 1030), (12, 484, 261)]
def pCs_10 : List (Nat × Nat × Nat) := [(12, 488, 262)]
def pCs_11 : List (Nat × Nat × Nat) := [(12, 521, 270), (12, 491, 271), (12, 506, 272), (12, 509, 273)]
def pCs : List (Nat × Nat × Nat) := pCs_0 ++ (pCs_1 ++ (pCs_2 ++ (pCs_3 ++ (pCs_4 ++ (pCs_5 ++ (pCs_6 ++ (pCs_7 ++ (pCs_8 ++ (pCs_9 ++ (pCs_10 ++ (pCs_11)))))))))))
def pC3 : List (Nat × Nat × Nat) := [(8, 38, 3002), (8, 46, 3003), (8, 47, 3004), (11, 59, 3018), (11, 66, 3019), (11, 73, 3020)]
def pJs_0 : List Nat := [1, 2, 3, 4, 5, 6]
def pJs_1 : List Nat := [7, 8, 9, 10, 11, 16, 17, 18, 19]
def pJs_2 : List Nat := [20, 21, 22, 23, 24, 26, 28, 29, 31, 33, 34, 36, 38, 39, 40, 41, 42, 43, 44, 45, 46, 47, 48, 49, 50, 51, 52, 53, 54]
def pJs_3 : List Nat := [55, 56, 57, 58, 59, 60, 61, 62, 63, 64, 65, 66, 68, 69, 73, 75, 77, 79, 80, 82, 84, 89, 91, 92, 93, 96, 97, 102, 103, 104,
  107]
def pJs_4 : List Nat := [109, 113, 114, 115, 116, 117, 118, 119, 120, 121, 122, 124, 126, 128, 129, 130, 134, 138, 139, 141, 143, 145, 148, 149, 150, 151, 152, 154, 157, 159,
  164]
def pJs_5 : List Nat := [167]
def pJs_6 : List Nat := [170, 171, 172, 174, 175, 177, 178, 179, 180, 181, 182, 183, 185, 186, 187, 188, 189, 190, 191, 192, 193, 194, 195, 196, 197, 198, 199, 204]
def pJs_7 : List Nat := [205, 207, 209, 212, 213, 214, 215, 216, 217, 221, 222, 224, 225, 228, 229, 230, 235, 236, 237, 238, 241, 242, 243, 245, 248, 249, 250, 251, 254, 255,
  256, 257, 261, 262]
def pJs_8 : List Nat := [270, 271, 272, 273]
def pJs : List Nat := pJs_0 ++ (pJs_1 ++ (pJs_2 ++ (pJs_3 ++ (pJs_4 ++ (pJs_5 ++ (pJs_6 ++ (pJs_7 ++ (pJs_8))))))))
def pSs_0 : List Nat := [21, 26, 33, 34, 36, 38, 39, 40, 41, 42, 44, 45, 46, 47, 49, 51, 52, 53, 54, 55, 56, 57, 58, 59, 60, 62, 64, 65, 66, 68,
  69, 73, 75, 77, 96, 97, 102, 104, 109, 114]
def pSs_1 : List Nat := [116, 117, 121, 122, 124, 128, 129, 130, 134, 139, 159, 167, 170, 171, 172, 174, 175, 177, 178, 179, 180, 181, 182, 183, 185, 186, 187, 188, 189, 190,
  191, 192, 193, 194, 195, 196, 197, 198, 199, 204]
def pSs_2 : List Nat := [205, 207, 209, 212, 213, 214, 215, 216, 217, 221, 222, 224, 225, 228, 229, 230, 235, 236, 237, 238, 241, 242, 243, 245, 248, 249, 250, 251, 254, 255,
  256, 257, 261, 262, 270, 271, 272, 273]
def pSs_3 : List Nat := [5]
def pSs_4 : List Nat := [8, 9, 10, 11]
def pSs_5 : List Nat := [22, 23, 24, 28, 29, 31, 43, 48, 50]
def pSs_6 : List Nat := [61, 63, 79, 80, 82, 84, 89, 91, 92, 93, 103, 107]
def pSs_7 : List Nat := [113, 115, 118, 119, 120, 126, 138, 141, 143, 145, 148, 149, 150, 151, 152, 154, 157, 164]
def pSs : List Nat := pSs_0 ++ (pSs_1 ++ (pSs_2 ++ (pSs_3 ++ (pSs_4 ++ (pSs_5 ++ (pSs_6 ++ (pSs_7)))))))
def pTt_0 : List Nat := [12, 13, 14, 15]
def pTt_1 : List Nat := [30, 32, 35, 37]
def pTt_2 : List Nat := [67, 78, 81, 83, 85, 86, 87]
def pTt_3 : List Nat := [111, 123, 127]
def pTt_4 : List Nat := [173, 176, 184, 200]
def pTt_5 : List Nat := [211, 218, 219]
def pTt : List Nat := pTt_0 ++ (pTt_1 ++ (pTt_2 ++ (pTt_3 ++ (pTt_4 ++ (pTt_5)))))
def pKs_0 : List (Nat × Nat × Int32) := [(10, 82, 1000000)]
def pKs_1 : List (Nat × Nat × Int32) := [(7, 213, 99999), (11, 223, (-2147483648))]
def pKs_2 : List (Nat × Nat × Int32) := [(6, 48, (-1000000)), (6, 49, 1000000), (0, 71, 1000000)]
def pKs_3 : List (Nat × Nat × Int32) := [(12, 182, 99999)]
def pKs_4 : List (Nat × Nat × Int32) := [(12, 387, (-2147483648)), (12, 409, 1103515245), (12, 410, 2147483647)]
def pKs : List (Nat × Nat × Int32) := pKs_0 ++ (pKs_1 ++ (pKs_2 ++ (pKs_3 ++ (pKs_4))))
def pK2_0 : List (Nat × Nat × Int64) := [(3, 51, 9), (5, 23, 1000000000000), (5, 27, (-9223372036854775808)), (5, 25, (-1000000000000)), (3, 85, (-9223372036854775808)), (3, 87, 99), (3, 102, 999), (11, 231, (-9223372036854775808)),
  (2, 92, 1103515245), (2, 94, 12345), (2, 96, 2147483647), (2, 98, 65536), (2, 100, 100)]
def pK2_1 : List (Nat × Nat × Int64) := [(12, 363, 9), (12, 344, 1000000000000), (12, 346, (-1000000000000)), (12, 397, (-9223372036854775808))]
def pK2 : List (Nat × Nat × Int64) := pK2_0 ++ (pK2_1)
def pNs_0 : List (Nat × Nat × Nat) := [(11, 19, 8), (8, 9, 1), (8, 17, 4), (8, 36, 5), (11, 29, 7), (7, 15, 10)]
def pNs_1 : List (Nat × Nat × Nat) := [(11, 38, 3), (11, 50, 6), (11, 57, 0), (11, 64, 9)]
def pNs_2 : List (Nat × Nat × Nat) := [(11, 71, 2)]
def pNs : List (Nat × Nat × Nat) := pNs_0 ++ (pNs_1 ++ (pNs_2))
def pAn_0 : List (Nat × Nat × Nat) := [(8, 9, 24), (8, 17, 25)]
def pAn : List (Nat × Nat × Nat) := pAn_0
def pIz_0 : List Nat := [11, 8, 5, 1, 4, 7, 10]
def pIz_1 : List Nat := [3, 6, 0, 9]
def pIz_2 : List Nat := [2]
def pIz_3 : List Nat := [12]
def pIz : List Nat := pIz_0 ++ (pIz_1 ++ (pIz_2 ++ (pIz_3)))
def pZz_0 : List Nat := [11, 8, 5, 1, 4, 7, 10, 14, 15, 16, 3, 6, 0, 9, 2, 12, 13]
def pZz : List Nat := pZz_0
def pUu_0 : List (Nat × Nat) := [(5, 0), (5, 1), (1, 0), (1, 1), (1, 2), (1, 3), (1, 4), (1, 5), (4, 0), (4, 1), (4, 2), (4, 3), (8, 0), (8, 1), (8, 2), (8, 3),
  (8, 4), (8, 5), (8, 6), (8, 7), (8, 8), (8, 9), (8, 10), (8, 11), (8, 12), (8, 13), (8, 14), (8, 15), (8, 16), (8, 17)]
def pUu_1 : List (Nat × Nat) := [(10, 0), (10, 1), (10, 2), (10, 3), (10, 4), (10, 5), (10, 6), (7, 0), (7, 1), (7, 2), (7, 3), (7, 4), (7, 5), (7, 6), (7, 7), (7, 8),
  (7, 9), (7, 10), (3, 0), (3, 1), (3, 2), (3, 3), (3, 4), (3, 5), (3, 6), (3, 7), (6, 0), (6, 1), (6, 2), (6, 3), (6, 4), (6, 5),
  (6, 6), (6, 7), (6, 8), (0, 0), (0, 1), (0, 2), (0, 3), (9, 0)]
def pUu_2 : List (Nat × Nat) := [(9, 1), (9, 2), (9, 3), (9, 4), (9, 5), (9, 6)]
def pUu_3 : List (Nat × Nat) := [(9, 7), (2, 0), (2, 1), (2, 2), (2, 3), (2, 4), (2, 5), (2, 6), (2, 7), (11, 0), (11, 1), (11, 2), (11, 3), (11, 4), (11, 5), (11, 6),
  (11, 7), (11, 8), (11, 9), (11, 10), (11, 11), (11, 12), (11, 13), (11, 14), (11, 15), (11, 16), (11, 17), (11, 18)]
def pUu_4 : List (Nat × Nat) := [(12, 0), (12, 1), (12, 2), (12, 3), (12, 4), (12, 5), (12, 6), (12, 7), (12, 8), (12, 9), (12, 10), (12, 11), (12, 12), (12, 13), (12, 14), (12, 15),
  (12, 16), (12, 17), (12, 18), (12, 19), (12, 20), (12, 21), (12, 22), (12, 23), (12, 24), (12, 25), (12, 26), (12, 27), (12, 28), (12, 29), (12, 30)]
def pUu_5 : List (Nat × Nat) := [(12, 31), (12, 32), (12, 33), (12, 34), (12, 35), (12, 36), (12, 37), (12, 38), (12, 39), (12, 40), (12, 41), (12, 42), (12, 43), (12, 44), (12, 45), (12, 46),
  (12, 47), (12, 48), (12, 49), (12, 50), (12, 51), (12, 52), (12, 53), (12, 54), (12, 55), (12, 56), (12, 57), (12, 58), (12, 59), (12, 60), (12, 61), (12, 62),
  (12, 63), (12, 64), (12, 65), (12, 66), (12, 67), (12, 68), (12, 69), (12, 70)]
def pUu_6 : List (Nat × Nat) := [(12, 71), (12, 72), (12, 73), (12, 74), (12, 75)]
def pUu : List (Nat × Nat) := pUu_0 ++ (pUu_1 ++ (pUu_2 ++ (pUu_3 ++ (pUu_4 ++ (pUu_5 ++ (pUu_6))))))
def pWq (q : Nat × Nat × Nat) : Cond := if q.2.2 = 9000 then .fieldLink (pR q.1) q.2.1 RJ0 "value" "[B" else if q.2.2 = 9001 then .fieldLink (pR q.1) q.2.1 RJ0 "coder" "B" else if q.2.2 = 9100 then .fieldLink (pR q.1) q.2.1 RJ0 "COMPACT_STRINGS" "Z" else .fieldLink (pR q.1) q.2.1 RJ3 "SIOOBE_FORMATTER" "Ljava/util/function/BiFunction;"
def pQs_0 : List (Nat × Nat × Nat) := [(14, 38, 9100), (14, 1053, 9101)]
def pQs_1 : List (Nat × Nat × Nat) := [(14, 9, 9000), (14, 15, 9001)]
def pQs : List (Nat × Nat × Nat) := pQs_0 ++ (pQs_1)
def pXx_0 : List FieldType := [.byte, .int]
def pXx_1 : List FieldType := [.long]
def pXx_2 : List FieldType := [.boolean]
def pXx : List FieldType := pXx_0 ++ (pXx_1 ++ (pXx_2))
end
section
set_option maxRecDepth 100000 in
theorem pIn_f_0 : GoodIn tables_1_1 (pFs_0.map pWf) := gi_c (List.mem_of_getElem? (i := 49) rfl) rfl (gi_c (List.mem_of_getElem? (i := 50) rfl) rfl (gi_c (List.mem_of_getElem? (i := 51) rfl) rfl (gi_c (List.mem_of_getElem? (i := 64) rfl) rfl (gi_c (List.mem_of_getElem? (i := 65) rfl) rfl (gi_c (List.mem_of_getElem? (i := 66) rfl) rfl (gi_c (List.mem_of_getElem? (i := 67) rfl) rfl (gi_c (List.mem_of_getElem? (i := 68) rfl) rfl (gi_c (List.mem_of_getElem? (i := 69) rfl) rfl (gi_c (List.mem_of_getElem? (i := 70) rfl) rfl (gi_c (List.mem_of_getElem? (i := 71) rfl) rfl (gi_c (List.mem_of_getElem? (i := 72) rfl) rfl (gi_c (List.mem_of_getElem? (i := 73) rfl) rfl (gi_c (List.mem_of_getElem? (i := 74) rfl) rfl (gi_c (List.mem_of_getElem? (i := 75) rfl) rfl (gi_c (List.mem_of_getElem? (i := 76) rfl) rfl (gi_c (List.mem_of_getElem? (i := 77) rfl) rfl (gi_c (List.mem_of_getElem? (i := 78) rfl) rfl (gi_c (List.mem_of_getElem? (i := 79) rfl) rfl (gi_c (List.mem_of_getElem? (i := 80) rfl) rfl (gi_c (List.mem_of_getElem? (i := 99) rfl) rfl (gi_c (List.mem_of_getElem? (i := 100) rfl) rfl (gi_c (List.mem_of_getElem? (i := 101) rfl) rfl (gi_c (List.mem_of_getElem? (i := 102) rfl) rfl (gi_c (List.mem_of_getElem? (i := 103) rfl) rfl (gi_c (List.mem_of_getElem? (i := 104) rfl) rfl (gi_c (List.mem_of_getElem? (i := 105) rfl) rfl (gi_c (List.mem_of_getElem? (i := 106) rfl) rfl (gi_c (List.mem_of_getElem? (i := 107) rfl) rfl (gi_c (List.mem_of_getElem? (i := 108) rfl) rfl (gi_c (List.mem_of_getElem? (i := 109) rfl) rfl (gi_c (List.mem_of_getElem? (i := 123) rfl) rfl (gi_c (List.mem_of_getElem? (i := 124) rfl) rfl (gi_c (List.mem_of_getElem? (i := 125) rfl) rfl (gi_c (List.mem_of_getElem? (i := 126) rfl) rfl (gi_c (List.mem_of_getElem? (i := 127) rfl) rfl (gi_c (List.mem_of_getElem? (i := 128) rfl) rfl (gi_c (List.mem_of_getElem? (i := 129) rfl) rfl (gi_c (List.mem_of_getElem? (i := 130) rfl) rfl (gi_c (List.mem_of_getElem? (i := 131) rfl) rfl (gi_n))))))))))))))))))))))))))))))))))))))))
set_option maxRecDepth 100000 in
theorem pIn_f_1 : GoodIn tables_1_1 (pFs_1.map pWf) := gi_c (List.mem_of_getElem? (i := 132) rfl) rfl (gi_c (List.mem_of_getElem? (i := 133) rfl) rfl (gi_c (List.mem_of_getElem? (i := 134) rfl) rfl (gi_c (List.mem_of_getElem? (i := 135) rfl) rfl (gi_c (List.mem_of_getElem? (i := 136) rfl) rfl (gi_c (List.mem_of_getElem? (i := 137) rfl) rfl (gi_c (List.mem_of_getElem? (i := 138) rfl) rfl (gi_c (List.mem_of_getElem? (i := 139) rfl) rfl (gi_c (List.mem_of_getElem? (i := 140) rfl) rfl (gi_c (List.mem_of_getElem? (i := 141) rfl) rfl (gi_c (List.mem_of_getElem? (i := 142) rfl) rfl (gi_c (List.mem_of_getElem? (i := 143) rfl) rfl (gi_c (List.mem_of_getElem? (i := 144) rfl) rfl (gi_c (List.mem_of_getElem? (i := 145) rfl) rfl (gi_c (List.mem_of_getElem? (i := 146) rfl) rfl (gi_c (List.mem_of_getElem? (i := 147) rfl) rfl (gi_c (List.mem_of_getElem? (i := 148) rfl) rfl (gi_c (List.mem_of_getElem? (i := 149) rfl) rfl (gi_c (List.mem_of_getElem? (i := 150) rfl) rfl (gi_c (List.mem_of_getElem? (i := 151) rfl) rfl (gi_c (List.mem_of_getElem? (i := 152) rfl) rfl (gi_c (List.mem_of_getElem? (i := 153) rfl) rfl (gi_c (List.mem_of_getElem? (i := 154) rfl) rfl (gi_c (List.mem_of_getElem? (i := 155) rfl) rfl (gi_c (List.mem_of_getElem? (i := 156) rfl) rfl (gi_c (List.mem_of_getElem? (i := 157) rfl) rfl (gi_c (List.mem_of_getElem? (i := 158) rfl) rfl (gi_c (List.mem_of_getElem? (i := 159) rfl) rfl (gi_c (List.mem_of_getElem? (i := 160) rfl) rfl (gi_c (List.mem_of_getElem? (i := 161) rfl) rfl (gi_c (List.mem_of_getElem? (i := 162) rfl) rfl (gi_c (List.mem_of_getElem? (i := 163) rfl) rfl (gi_c (List.mem_of_getElem? (i := 164) rfl) rfl (gi_c (List.mem_of_getElem? (i := 165) rfl) rfl (gi_c (List.mem_of_getElem? (i := 166) rfl) rfl (gi_c (List.mem_of_getElem? (i := 167) rfl) rfl (gi_c (List.mem_of_getElem? (i := 168) rfl) rfl (gi_c (List.mem_of_getElem? (i := 169) rfl) rfl (gi_c (List.mem_of_getElem? (i := 170) rfl) rfl (gi_c (List.mem_of_getElem? (i := 171) rfl) rfl (gi_n))))))))))))))))))))))))))))))))))))))))
set_option maxRecDepth 100000 in
theorem pIn_f_2 : GoodIn tables_1_1 (pFs_2.map pWf) := gi_c (List.mem_of_getElem? (i := 172) rfl) rfl (gi_c (List.mem_of_getElem? (i := 173) rfl) rfl (gi_c (List.mem_of_getElem? (i := 174) rfl) rfl (gi_c (List.mem_of_getElem? (i := 175) rfl) rfl (gi_c (List.mem_of_getElem? (i := 176) rfl) rfl (gi_c (List.mem_of_getElem? (i := 177) rfl) rfl (gi_c (List.mem_of_getElem? (i := 178) rfl) rfl (gi_c (List.mem_of_getElem? (i := 179) rfl) rfl (gi_c (List.mem_of_getElem? (i := 180) rfl) rfl (gi_c (List.mem_of_getElem? (i := 181) rfl) rfl (gi_c (List.mem_of_getElem? (i := 182) rfl) rfl (gi_c (List.mem_of_getElem? (i := 183) rfl) rfl (gi_c (List.mem_of_getElem? (i := 184) rfl) rfl (gi_c (List.mem_of_getElem? (i := 185) rfl) rfl (gi_c (List.mem_of_getElem? (i := 186) rfl) rfl (gi_c (List.mem_of_getElem? (i := 187) rfl) rfl (gi_c (List.mem_of_getElem? (i := 188) rfl) rfl (gi_c (List.mem_of_getElem? (i := 189) rfl) rfl (gi_c (List.mem_of_getElem? (i := 190) rfl) rfl (gi_c (List.mem_of_getElem? (i := 191) rfl) rfl (gi_c (List.mem_of_getElem? (i := 192) rfl) rfl (gi_c (List.mem_of_getElem? (i := 193) rfl) rfl (gi_c (List.mem_of_getElem? (i := 194) rfl) rfl (gi_n)))))))))))))))))))))))
set_option maxRecDepth 100000 in
theorem pIn_f_3 : GoodIn tables_1_2 (pFs_3.map pWf) := gi_c (List.mem_of_getElem? (i := 56) rfl) rfl (gi_c (List.mem_of_getElem? (i := 57) rfl) rfl (gi_c (List.mem_of_getElem? (i := 58) rfl) rfl (gi_c (List.mem_of_getElem? (i := 59) rfl) rfl (gi_c (List.mem_of_getElem? (i := 60) rfl) rfl (gi_c (List.mem_of_getElem? (i := 61) rfl) rfl (gi_c (List.mem_of_getElem? (i := 62) rfl) rfl (gi_c (List.mem_of_getElem? (i := 63) rfl) rfl (gi_c (List.mem_of_getElem? (i := 64) rfl) rfl (gi_c (List.mem_of_getElem? (i := 65) rfl) rfl (gi_c (List.mem_of_getElem? (i := 81) rfl) rfl (gi_c (List.mem_of_getElem? (i := 82) rfl) rfl (gi_c (List.mem_of_getElem? (i := 83) rfl) rfl (gi_c (List.mem_of_getElem? (i := 84) rfl) rfl (gi_c (List.mem_of_getElem? (i := 85) rfl) rfl (gi_c (List.mem_of_getElem? (i := 86) rfl) rfl (gi_c (List.mem_of_getElem? (i := 87) rfl) rfl (gi_c (List.mem_of_getElem? (i := 88) rfl) rfl (gi_c (List.mem_of_getElem? (i := 89) rfl) rfl (gi_c (List.mem_of_getElem? (i := 90) rfl) rfl (gi_c (List.mem_of_getElem? (i := 91) rfl) rfl (gi_c (List.mem_of_getElem? (i := 92) rfl) rfl (gi_c (List.mem_of_getElem? (i := 93) rfl) rfl (gi_c (List.mem_of_getElem? (i := 123) rfl) rfl (gi_c (List.mem_of_getElem? (i := 124) rfl) rfl (gi_c (List.mem_of_getElem? (i := 125) rfl) rfl (gi_c (List.mem_of_getElem? (i := 126) rfl) rfl (gi_c (List.mem_of_getElem? (i := 127) rfl) rfl (gi_c (List.mem_of_getElem? (i := 128) rfl) rfl (gi_c (List.mem_of_getElem? (i := 129) rfl) rfl (gi_c (List.mem_of_getElem? (i := 130) rfl) rfl (gi_c (List.mem_of_getElem? (i := 155) rfl) rfl (gi_c (List.mem_of_getElem? (i := 156) rfl) rfl (gi_c (List.mem_of_getElem? (i := 157) rfl) rfl (gi_c (List.mem_of_getElem? (i := 158) rfl) rfl (gi_c (List.mem_of_getElem? (i := 159) rfl) rfl (gi_c (List.mem_of_getElem? (i := 160) rfl) rfl (gi_c (List.mem_of_getElem? (i := 161) rfl) rfl (gi_c (List.mem_of_getElem? (i := 162) rfl) rfl (gi_c (List.mem_of_getElem? (i := 163) rfl) rfl (gi_n))))))))))))))))))))))))))))))))))))))))
set_option maxRecDepth 100000 in
theorem pIn_f_4 : GoodIn tables_1_2 (pFs_4.map pWf) := gi_c (List.mem_of_getElem? (i := 164) rfl) rfl (gi_c (List.mem_of_getElem? (i := 165) rfl) rfl (gi_c (List.mem_of_getElem? (i := 166) rfl) rfl (gi_c (List.mem_of_getElem? (i := 192) rfl) rfl (gi_c (List.mem_of_getElem? (i := 193) rfl) rfl (gi_c (List.mem_of_getElem? (i := 194) rfl) rfl (gi_c (List.mem_of_getElem? (i := 195) rfl) rfl (gi_c (List.mem_of_getElem? (i := 196) rfl) rfl (gi_c (List.mem_of_getElem? (i := 212) rfl) rfl (gi_c (List.mem_of_getElem? (i := 213) rfl) rfl (gi_c (List.mem_of_getElem? (i := 214) rfl) rfl (gi_c (List.mem_of_getElem? (i := 215) rfl) rfl (gi_c (List.mem_of_getElem? (i := 216) rfl) rfl (gi_c (List.mem_of_getElem? (i := 217) rfl) rfl (gi_c (List.mem_of_getElem? (i := 218) rfl) rfl (gi_c (List.mem_of_getElem? (i := 219) rfl) rfl (gi_c (List.mem_of_getElem? (i := 220) rfl) rfl (gi_c (List.mem_of_getElem? (i := 221) rfl) rfl (gi_c (List.mem_of_getElem? (i := 222) rfl) rfl (gi_c (List.mem_of_getElem? (i := 223) rfl) rfl (gi_c (List.mem_of_getElem? (i := 224) rfl) rfl (gi_c (List.mem_of_getElem? (i := 225) rfl) rfl (gi_c (List.mem_of_getElem? (i := 226) rfl) rfl (gi_n)))))))))))))))))))))))
set_option maxRecDepth 100000 in
theorem pIn_f_5 : GoodIn tables_1_3 (pFs_5.map pWf) := gi_c (List.mem_of_getElem? (i := 11) rfl) rfl (gi_c (List.mem_of_getElem? (i := 12) rfl) rfl (gi_c (List.mem_of_getElem? (i := 13) rfl) rfl (gi_c (List.mem_of_getElem? (i := 14) rfl) rfl (gi_c (List.mem_of_getElem? (i := 15) rfl) rfl (gi_c (List.mem_of_getElem? (i := 16) rfl) rfl (gi_c (List.mem_of_getElem? (i := 17) rfl) rfl (gi_c (List.mem_of_getElem? (i := 18) rfl) rfl (gi_c (List.mem_of_getElem? (i := 19) rfl) rfl (gi_c (List.mem_of_getElem? (i := 20) rfl) rfl (gi_c (List.mem_of_getElem? (i := 21) rfl) rfl (gi_c (List.mem_of_getElem? (i := 22) rfl) rfl (gi_c (List.mem_of_getElem? (i := 23) rfl) rfl (gi_c (List.mem_of_getElem? (i := 24) rfl) rfl (gi_c (List.mem_of_getElem? (i := 25) rfl) rfl (gi_c (List.mem_of_getElem? (i := 26) rfl) rfl (gi_c (List.mem_of_getElem? (i := 27) rfl) rfl (gi_c (List.mem_of_getElem? (i := 28) rfl) rfl (gi_c (List.mem_of_getElem? (i := 29) rfl) rfl (gi_c (List.mem_of_getElem? (i := 30) rfl) rfl (gi_c (List.mem_of_getElem? (i := 64) rfl) rfl (gi_c (List.mem_of_getElem? (i := 65) rfl) rfl (gi_c (List.mem_of_getElem? (i := 66) rfl) rfl (gi_c (List.mem_of_getElem? (i := 67) rfl) rfl (gi_c (List.mem_of_getElem? (i := 68) rfl) rfl (gi_c (List.mem_of_getElem? (i := 69) rfl) rfl (gi_c (List.mem_of_getElem? (i := 70) rfl) rfl (gi_c (List.mem_of_getElem? (i := 71) rfl) rfl (gi_c (List.mem_of_getElem? (i := 72) rfl) rfl (gi_c (List.mem_of_getElem? (i := 73) rfl) rfl (gi_c (List.mem_of_getElem? (i := 74) rfl) rfl (gi_c (List.mem_of_getElem? (i := 75) rfl) rfl (gi_c (List.mem_of_getElem? (i := 76) rfl) rfl (gi_c (List.mem_of_getElem? (i := 77) rfl) rfl (gi_c (List.mem_of_getElem? (i := 78) rfl) rfl (gi_c (List.mem_of_getElem? (i := 79) rfl) rfl (gi_c (List.mem_of_getElem? (i := 80) rfl) rfl (gi_c (List.mem_of_getElem? (i := 81) rfl) rfl (gi_c (List.mem_of_getElem? (i := 82) rfl) rfl (gi_n)))))))))))))))))))))))))))))))))))))))
set_option maxRecDepth 100000 in
theorem pIn_f_6 : GoodIn tables_1_6 (pFs_6.map pWf) := gi_c (List.mem_of_getElem? (i := 102) rfl) rfl (gi_c (List.mem_of_getElem? (i := 103) rfl) rfl (gi_c (List.mem_of_getElem? (i := 104) rfl) rfl (gi_c (List.mem_of_getElem? (i := 105) rfl) rfl (gi_c (List.mem_of_getElem? (i := 106) rfl) rfl (gi_c (List.mem_of_getElem? (i := 107) rfl) rfl (gi_c (List.mem_of_getElem? (i := 108) rfl) rfl (gi_c (List.mem_of_getElem? (i := 109) rfl) rfl (gi_c (List.mem_of_getElem? (i := 110) rfl) rfl (gi_c (List.mem_of_getElem? (i := 111) rfl) rfl (gi_c (List.mem_of_getElem? (i := 112) rfl) rfl (gi_c (List.mem_of_getElem? (i := 113) rfl) rfl (gi_c (List.mem_of_getElem? (i := 114) rfl) rfl (gi_c (List.mem_of_getElem? (i := 115) rfl) rfl (gi_c (List.mem_of_getElem? (i := 116) rfl) rfl (gi_c (List.mem_of_getElem? (i := 117) rfl) rfl (gi_c (List.mem_of_getElem? (i := 118) rfl) rfl (gi_c (List.mem_of_getElem? (i := 119) rfl) rfl (gi_c (List.mem_of_getElem? (i := 120) rfl) rfl (gi_c (List.mem_of_getElem? (i := 121) rfl) rfl (gi_c (List.mem_of_getElem? (i := 122) rfl) rfl (gi_c (List.mem_of_getElem? (i := 123) rfl) rfl (gi_c (List.mem_of_getElem? (i := 124) rfl) rfl (gi_c (List.mem_of_getElem? (i := 125) rfl) rfl (gi_c (List.mem_of_getElem? (i := 126) rfl) rfl (gi_c (List.mem_of_getElem? (i := 127) rfl) rfl (gi_c (List.mem_of_getElem? (i := 128) rfl) rfl (gi_c (List.mem_of_getElem? (i := 129) rfl) rfl (gi_c (List.mem_of_getElem? (i := 130) rfl) rfl (gi_c (List.mem_of_getElem? (i := 131) rfl) rfl (gi_c (List.mem_of_getElem? (i := 132) rfl) rfl (gi_c (List.mem_of_getElem? (i := 133) rfl) rfl (gi_c (List.mem_of_getElem? (i := 134) rfl) rfl (gi_c (List.mem_of_getElem? (i := 135) rfl) rfl (gi_c (List.mem_of_getElem? (i := 136) rfl) rfl (gi_c (List.mem_of_getElem? (i := 137) rfl) rfl (gi_c (List.mem_of_getElem? (i := 138) rfl) rfl (gi_c (List.mem_of_getElem? (i := 139) rfl) rfl (gi_c (List.mem_of_getElem? (i := 140) rfl) rfl (gi_c (List.mem_of_getElem? (i := 141) rfl) rfl (gi_n))))))))))))))))))))))))))))))))))))))))
set_option maxRecDepth 100000 in
theorem pIn_f_7 : GoodIn tables_1_6 (pFs_7.map pWf) := gi_c (List.mem_of_getElem? (i := 142) rfl) rfl (gi_c (List.mem_of_getElem? (i := 143) rfl) rfl (gi_c (List.mem_of_getElem? (i := 144) rfl) rfl (gi_c (List.mem_of_getElem? (i := 145) rfl) rfl (gi_c (List.mem_of_getElem? (i := 146) rfl) rfl (gi_c (List.mem_of_getElem? (i := 147) rfl) rfl (gi_c (List.mem_of_getElem? (i := 148) rfl) rfl (gi_c (List.mem_of_getElem? (i := 149) rfl) rfl (gi_c (List.mem_of_getElem? (i := 150) rfl) rfl (gi_c (List.mem_of_getElem? (i := 151) rfl) rfl (gi_c (List.mem_of_getElem? (i := 152) rfl) rfl (gi_c (List.mem_of_getElem? (i := 153) rfl) rfl (gi_c (List.mem_of_getElem? (i := 154) rfl) rfl (gi_c (List.mem_of_getElem? (i := 155) rfl) rfl (gi_c (List.mem_of_getElem? (i := 156) rfl) rfl (gi_c (List.mem_of_getElem? (i := 157) rfl) rfl (gi_c (List.mem_of_getElem? (i := 158) rfl) rfl (gi_c (List.mem_of_getElem? (i := 159) rfl) rfl (gi_c (List.mem_of_getElem? (i := 160) rfl) rfl (gi_c (List.mem_of_getElem? (i := 161) rfl) rfl (gi_c (List.mem_of_getElem? (i := 162) rfl) rfl (gi_c (List.mem_of_getElem? (i := 163) rfl) rfl (gi_c (List.mem_of_getElem? (i := 164) rfl) rfl (gi_c (List.mem_of_getElem? (i := 165) rfl) rfl (gi_c (List.mem_of_getElem? (i := 166) rfl) rfl (gi_c (List.mem_of_getElem? (i := 167) rfl) rfl (gi_c (List.mem_of_getElem? (i := 168) rfl) rfl (gi_c (List.mem_of_getElem? (i := 169) rfl) rfl (gi_c (List.mem_of_getElem? (i := 170) rfl) rfl (gi_c (List.mem_of_getElem? (i := 171) rfl) rfl (gi_c (List.mem_of_getElem? (i := 172) rfl) rfl (gi_c (List.mem_of_getElem? (i := 173) rfl) rfl (gi_c (List.mem_of_getElem? (i := 174) rfl) rfl (gi_c (List.mem_of_getElem? (i := 175) rfl) rfl (gi_c (List.mem_of_getElem? (i := 176) rfl) rfl (gi_c (List.mem_of_getElem? (i := 177) rfl) rfl (gi_n))))))))))))))))))))))))))))))))))))
theorem pIn_f : GoodIn lw_tbl (pFs.map pWf) := goodIn_ma (goodIn_up pt_1 pIn_f_0) (goodIn_ma (goodIn_up pt_1 pIn_f_1) (goodIn_ma (goodIn_up pt_1 pIn_f_2) (goodIn_ma (goodIn_up pt_2 pIn_f_3) (goodIn_ma (goodIn_up pt_2 pIn_f_4) (goodIn_ma (goodIn_up pt_3 pIn_f_5) (goodIn_ma (goodIn_up pt_6 pIn_f_6) (goodIn_up pt_6 pIn_f_7)))))))
set_option maxRecDepth 100000 in
theorem pIn_c_0 : GoodIn tables_1_1 (pCs_0.map pWc) := gi_c (List.mem_of_getElem? (i := 30) rfl) rfl (gi_c (List.mem_of_getElem? (i := 35) rfl) rfl (gi_c (List.mem_of_getElem? (i := 38) rfl) rfl (gi_c (List.mem_of_getElem? (i := 48) rfl) rfl (gi_c (List.mem_of_getElem? (i := 63) rfl) rfl (gi_c (List.mem_of_getElem? (i := 98) rfl) rfl (gi_c (List.mem_of_getElem? (i := 119) rfl) rfl (gi_c (List.mem_of_getElem? (i := 234) rfl) rfl (gi_c (List.mem_of_getElem? (i := 237) rfl) rfl (gi_n)))))))))
set_option maxRecDepth 100000 in
theorem pIn_c_1 : GoodIn tables_1_2 (pCs_1.map pWc) := gi_c (List.mem_of_getElem? (i := 0) rfl) rfl (gi_c (List.mem_of_getElem? (i := 3) rfl) rfl (gi_c (List.mem_of_getElem? (i := 5) rfl) rfl (gi_c (List.mem_of_getElem? (i := 9) rfl) rfl (gi_c (List.mem_of_getElem? (i := 15) rfl) rfl (gi_c (List.mem_of_getElem? (i := 19) rfl) rfl (gi_c (List.mem_of_getElem? (i := 23) rfl) rfl (gi_c (List.mem_of_getElem? (i := 26) rfl) rfl (gi_c (List.mem_of_getElem? (i := 31) rfl) rfl (gi_c (List.mem_of_getElem? (i := 53) rfl) rfl (gi_c (List.mem_of_getElem? (i := 119) rfl) rfl (gi_c (List.mem_of_getElem? (i := 122) rfl) rfl (gi_c (List.mem_of_getElem? (i := 151) rfl) rfl (gi_c (List.mem_of_getElem? (i := 154) rfl) rfl (gi_c (List.mem_of_getElem? (i := 191) rfl) rfl (gi_c (List.mem_of_getElem? (i := 211) rfl) rfl (gi_n))))))))))))))))
set_option maxRecDepth 100000 in
theorem pIn_c_2 : GoodIn tables_1_3 (pCs_2.map pWc) := gi_c (List.mem_of_getElem? (i := 10) rfl) rfl (gi_c (List.mem_of_getElem? (i := 48) rfl) rfl (gi_c (List.mem_of_getElem? (i := 52) rfl) rfl (gi_c (List.mem_of_getElem? (i := 56) rfl) rfl (gi_c (List.mem_of_getElem? (i := 60) rfl) rfl (gi_c (List.mem_of_getElem? (i := 126) rfl) rfl (gi_c (List.mem_of_getElem? (i := 134) rfl) rfl (gi_c (List.mem_of_getElem? (i := 138) rfl) rfl (gi_c (List.mem_of_getElem? (i := 139) rfl) rfl (gi_c (List.mem_of_getElem? (i := 143) rfl) rfl (gi_c (List.mem_of_getElem? (i := 146) rfl) rfl (gi_c (List.mem_of_getElem? (i := 150) rfl) rfl (gi_c (List.mem_of_getElem? (i := 153) rfl) rfl (gi_c (List.mem_of_getElem? (i := 157) rfl) rfl (gi_c (List.mem_of_getElem? (i := 161) rfl) rfl (gi_c (List.mem_of_getElem? (i := 164) rfl) rfl (gi_c (List.mem_of_getElem? (i := 169) rfl) rfl (gi_c (List.mem_of_getElem? (i := 172) rfl) rfl (gi_c (List.mem_of_getElem? (i := 176) rfl) rfl (gi_c (List.mem_of_getElem? (i := 180) rfl) rfl (gi_c (List.mem_of_getElem? (i := 184) rfl) rfl (gi_c (List.mem_of_getElem? (i := 188) rfl) rfl (gi_c (List.mem_of_getElem? (i := 192) rfl) rfl (gi_c (List.mem_of_getElem? (i := 193) rfl) rfl (gi_c (List.mem_of_getElem? (i := 197) rfl) rfl (gi_c (List.mem_of_getElem? (i := 201) rfl) rfl (gi_c (List.mem_of_getElem? (i := 205) rfl) rfl (gi_c (List.mem_of_getElem? (i := 209) rfl) rfl (gi_c (List.mem_of_getElem? (i := 213) rfl) rfl (gi_c (List.mem_of_getElem? (i := 217) rfl) rfl (gi_c (List.mem_of_getElem? (i := 221) rfl) rfl (gi_c (List.mem_of_getElem? (i := 225) rfl) rfl (gi_c (List.mem_of_getElem? (i := 229) rfl) rfl (gi_c (List.mem_of_getElem? (i := 233) rfl) rfl (gi_c (List.mem_of_getElem? (i := 237) rfl) rfl (gi_n)))))))))))))))))))))))))))))))))))
set_option maxRecDepth 100000 in
theorem pIn_c_3 : GoodIn tables_1_4 (pCs_3.map pWc) := gi_c (List.mem_of_getElem? (i := 1) rfl) rfl (gi_c (List.mem_of_getElem? (i := 5) rfl) rfl (gi_c (List.mem_of_getElem? (i := 9) rfl) rfl (gi_c (List.mem_of_getElem? (i := 13) rfl) rfl (gi_c (List.mem_of_getElem? (i := 17) rfl) rfl (gi_c (List.mem_of_getElem? (i := 22) rfl) rfl (gi_c (List.mem_of_getElem? (i := 26) rfl) rfl (gi_c (List.mem_of_getElem? (i := 30) rfl) rfl (gi_c (List.mem_of_getElem? (i := 34) rfl) rfl (gi_c (List.mem_of_getElem? (i := 38) rfl) rfl (gi_c (List.mem_of_getElem? (i := 42) rfl) rfl (gi_c (List.mem_of_getElem? (i := 46) rfl) rfl (gi_c (List.mem_of_getElem? (i := 50) rfl) rfl (gi_c (List.mem_of_getElem? (i := 53) rfl) rfl (gi_c (List.mem_of_getElem? (i := 57) rfl) rfl (gi_c (List.mem_of_getElem? (i := 69) rfl) rfl (gi_c (List.mem_of_getElem? (i := 70) rfl) rfl (gi_c (List.mem_of_getElem? (i := 71) rfl) rfl (gi_c (List.mem_of_getElem? (i := 76) rfl) rfl (gi_c (List.mem_of_getElem? (i := 84) rfl) rfl (gi_c (List.mem_of_getElem? (i := 92) rfl) rfl (gi_c (List.mem_of_getElem? (i := 96) rfl) rfl (gi_c (List.mem_of_getElem? (i := 99) rfl) rfl (gi_c (List.mem_of_getElem? (i := 103) rfl) rfl (gi_c (List.mem_of_getElem? (i := 108) rfl) rfl (gi_c (List.mem_of_getElem? (i := 111) rfl) rfl (gi_c (List.mem_of_getElem? (i := 115) rfl) rfl (gi_c (List.mem_of_getElem? (i := 118) rfl) rfl (gi_c (List.mem_of_getElem? (i := 122) rfl) rfl (gi_c (List.mem_of_getElem? (i := 130) rfl) rfl (gi_c (List.mem_of_getElem? (i := 133) rfl) rfl (gi_c (List.mem_of_getElem? (i := 140) rfl) rfl (gi_c (List.mem_of_getElem? (i := 150) rfl) rfl (gi_c (List.mem_of_getElem? (i := 154) rfl) rfl (gi_c (List.mem_of_getElem? (i := 158) rfl) rfl (gi_c (List.mem_of_getElem? (i := 162) rfl) rfl (gi_c (List.mem_of_getElem? (i := 168) rfl) rfl (gi_c (List.mem_of_getElem? (i := 169) rfl) rfl (gi_c (List.mem_of_getElem? (i := 174) rfl) rfl (gi_c (List.mem_of_getElem? (i := 178) rfl) rfl (gi_n))))))))))))))))))))))))))))))))))))))))
set_option maxRecDepth 100000 in
theorem pIn_c_4 : GoodIn tables_1_4 (pCs_4.map pWc) := gi_c (List.mem_of_getElem? (i := 182) rfl) rfl (gi_c (List.mem_of_getElem? (i := 201) rfl) rfl (gi_c (List.mem_of_getElem? (i := 205) rfl) rfl (gi_c (List.mem_of_getElem? (i := 209) rfl) rfl (gi_c (List.mem_of_getElem? (i := 210) rfl) rfl (gi_c (List.mem_of_getElem? (i := 211) rfl) rfl (gi_c (List.mem_of_getElem? (i := 212) rfl) rfl (gi_c (List.mem_of_getElem? (i := 225) rfl) rfl (gi_c (List.mem_of_getElem? (i := 230) rfl) rfl (gi_c (List.mem_of_getElem? (i := 234) rfl) rfl (gi_c (List.mem_of_getElem? (i := 235) rfl) rfl (gi_n)))))))))))
set_option maxRecDepth 100000 in
theorem pIn_c_5 : GoodIn tables_1_5 (pCs_5.map pWc) := gi_c (List.mem_of_getElem? (i := 0) rfl) rfl (gi_c (List.mem_of_getElem? (i := 8) rfl) rfl (gi_c (List.mem_of_getElem? (i := 15) rfl) rfl (gi_c (List.mem_of_getElem? (i := 19) rfl) rfl (gi_c (List.mem_of_getElem? (i := 23) rfl) rfl (gi_c (List.mem_of_getElem? (i := 24) rfl) rfl (gi_c (List.mem_of_getElem? (i := 30) rfl) rfl (gi_c (List.mem_of_getElem? (i := 31) rfl) rfl (gi_c (List.mem_of_getElem? (i := 35) rfl) rfl (gi_c (List.mem_of_getElem? (i := 36) rfl) rfl (gi_c (List.mem_of_getElem? (i := 40) rfl) rfl (gi_c (List.mem_of_getElem? (i := 41) rfl) rfl (gi_c (List.mem_of_getElem? (i := 42) rfl) rfl (gi_c (List.mem_of_getElem? (i := 46) rfl) rfl (gi_c (List.mem_of_getElem? (i := 50) rfl) rfl (gi_c (List.mem_of_getElem? (i := 54) rfl) rfl (gi_c (List.mem_of_getElem? (i := 58) rfl) rfl (gi_c (List.mem_of_getElem? (i := 62) rfl) rfl (gi_c (List.mem_of_getElem? (i := 65) rfl) rfl (gi_c (List.mem_of_getElem? (i := 69) rfl) rfl (gi_c (List.mem_of_getElem? (i := 74) rfl) rfl (gi_c (List.mem_of_getElem? (i := 78) rfl) rfl (gi_c (List.mem_of_getElem? (i := 79) rfl) rfl (gi_c (List.mem_of_getElem? (i := 80) rfl) rfl (gi_c (List.mem_of_getElem? (i := 81) rfl) rfl (gi_c (List.mem_of_getElem? (i := 82) rfl) rfl (gi_c (List.mem_of_getElem? (i := 85) rfl) rfl (gi_c (List.mem_of_getElem? (i := 86) rfl) rfl (gi_c (List.mem_of_getElem? (i := 91) rfl) rfl (gi_c (List.mem_of_getElem? (i := 95) rfl) rfl (gi_c (List.mem_of_getElem? (i := 111) rfl) rfl (gi_c (List.mem_of_getElem? (i := 123) rfl) rfl (gi_c (List.mem_of_getElem? (i := 128) rfl) rfl (gi_c (List.mem_of_getElem? (i := 132) rfl) rfl (gi_c (List.mem_of_getElem? (i := 140) rfl) rfl (gi_c (List.mem_of_getElem? (i := 148) rfl) rfl (gi_c (List.mem_of_getElem? (i := 156) rfl) rfl (gi_c (List.mem_of_getElem? (i := 168) rfl) rfl (gi_c (List.mem_of_getElem? (i := 172) rfl) rfl (gi_c (List.mem_of_getElem? (i := 176) rfl) rfl (gi_n))))))))))))))))))))))))))))))))))))))))
set_option maxRecDepth 100000 in
theorem pIn_c_6 : GoodIn tables_1_5 (pCs_6.map pWc) := gi_c (List.mem_of_getElem? (i := 180) rfl) rfl (gi_c (List.mem_of_getElem? (i := 181) rfl) rfl (gi_c (List.mem_of_getElem? (i := 182) rfl) rfl (gi_c (List.mem_of_getElem? (i := 186) rfl) rfl (gi_c (List.mem_of_getElem? (i := 194) rfl) rfl (gi_c (List.mem_of_getElem? (i := 206) rfl) rfl (gi_c (List.mem_of_getElem? (i := 210) rfl) rfl (gi_c (List.mem_of_getElem? (i := 215) rfl) rfl (gi_c (List.mem_of_getElem? (i := 235) rfl) rfl (gi_c (List.mem_of_getElem? (i := 236) rfl) rfl (gi_n))))))))))
set_option maxRecDepth 100000 in
theorem pIn_c_7 : GoodIn tables_1_6 (pCs_7.map pWc) := gi_c (List.mem_of_getElem? (i := 75) rfl) rfl (gi_c (List.mem_of_getElem? (i := 97) rfl) rfl (gi_c (List.mem_of_getElem? (i := 98) rfl) rfl (gi_n)))
set_option maxRecDepth 100000 in
theorem pIn_c_8 : GoodIn tables_1_7 (pCs_8.map pWc) := gi_c (List.mem_of_getElem? (i := 99) rfl) rfl (gi_c (List.mem_of_getElem? (i := 103) rfl) rfl (gi_c (List.mem_of_getElem? (i := 107) rfl) rfl (gi_c (List.mem_of_getElem? (i := 111) rfl) rfl (gi_c (List.mem_of_getElem? (i := 114) rfl) rfl (gi_c (List.mem_of_getElem? (i := 119) rfl) rfl (gi_c (List.mem_of_getElem? (i := 120) rfl) rfl (gi_c (List.mem_of_getElem? (i := 121) rfl) rfl (gi_c (List.mem_of_getElem? (i := 125) rfl) rfl (gi_c (List.mem_of_getElem? (i := 129) rfl) rfl (gi_c (List.mem_of_getElem? (i := 133) rfl) rfl (gi_c (List.mem_of_getElem? (i := 137) rfl) rfl (gi_c (List.mem_of_getElem? (i := 141) rfl) rfl (gi_c (List.mem_of_getElem? (i := 145) rfl) rfl (gi_c (List.mem_of_getElem? (i := 149) rfl) rfl (gi_c (List.mem_of_getElem? (i := 153) rfl) rfl (gi_c (List.mem_of_getElem? (i := 157) rfl) rfl (gi_c (List.mem_of_getElem? (i := 160) rfl) rfl (gi_c (List.mem_of_getElem? (i := 164) rfl) rfl (gi_c (List.mem_of_getElem? (i := 168) rfl) rfl (gi_c (List.mem_of_getElem? (i := 172) rfl) rfl (gi_c (List.mem_of_getElem? (i := 176) rfl) rfl (gi_c (List.mem_of_getElem? (i := 180) rfl) rfl (gi_c (List.mem_of_getElem? (i := 184) rfl) rfl (gi_c (List.mem_of_getElem? (i := 188) rfl) rfl (gi_c (List.mem_of_getElem? (i := 192) rfl) rfl (gi_c (List.mem_of_getElem? (i := 196) rfl) rfl (gi_c (List.mem_of_getElem? (i := 200) rfl) rfl (gi_c (List.mem_of_getElem? (i := 204) rfl) rfl (gi_c (List.mem_of_getElem? (i := 208) rfl) rfl (gi_c (List.mem_of_getElem? (i := 212) rfl) rfl (gi_c (List.mem_of_getElem? (i := 216) rfl) rfl (gi_c (List.mem_of_getElem? (i := 220) rfl) rfl (gi_c (List.mem_of_getElem? (i := 235) rfl) rfl (gi_c (List.mem_of_getElem? (i := 239) rfl) rfl (gi_n)))))))))))))))))))))))))))))))))))
set_option maxRecDepth 100000 in
theorem pIn_c_9 : GoodIn tables_1_8 (pCs_9.map pWc) := gi_c (List.mem_of_getElem? (i := 3) rfl) rfl (gi_c (List.mem_of_getElem? (i := 8) rfl) rfl (gi_c (List.mem_of_getElem? (i := 16) rfl) rfl (gi_c (List.mem_of_getElem? (i := 24) rfl) rfl (gi_c (List.mem_of_getElem? (i := 27) rfl) rfl (gi_c (List.mem_of_getElem? (i := 31) rfl) rfl (gi_c (List.mem_of_getElem? (i := 36) rfl) rfl (gi_c (List.mem_of_getElem? (i := 37) rfl) rfl (gi_c (List.mem_of_getElem? (i := 41) rfl) rfl (gi_c (List.mem_of_getElem? (i := 45) rfl) rfl (gi_c (List.mem_of_getElem? (i := 49) rfl) rfl (gi_c (List.mem_of_getElem? (i := 53) rfl) rfl (gi_c (List.mem_of_getElem? (i := 56) rfl) rfl (gi_c (List.mem_of_getElem? (i := 61) rfl) rfl (gi_c (List.mem_of_getElem? (i := 62) rfl) rfl (gi_c (List.mem_of_getElem? (i := 67) rfl) rfl (gi_c (List.mem_of_getElem? (i := 71) rfl) rfl (gi_c (List.mem_of_getElem? (i := 80) rfl) rfl (gi_c (List.mem_of_getElem? (i := 84) rfl) rfl (gi_c (List.mem_of_getElem? (i := 97) rfl) rfl (gi_c (List.mem_of_getElem? (i := 101) rfl) rfl (gi_c (List.mem_of_getElem? (i := 105) rfl) rfl (gi_c (List.mem_of_getElem? (i := 125) rfl) rfl (gi_c (List.mem_of_getElem? (i := 129) rfl) rfl (gi_c (List.mem_of_getElem? (i := 133) rfl) rfl (gi_c (List.mem_of_getElem? (i := 139) rfl) rfl (gi_c (List.mem_of_getElem? (i := 151) rfl) rfl (gi_c (List.mem_of_getElem? (i := 155) rfl) rfl (gi_c (List.mem_of_getElem? (i := 159) rfl) rfl (gi_c (List.mem_of_getElem? (i := 167) rfl) rfl (gi_c (List.mem_of_getElem? (i := 179) rfl) rfl (gi_c (List.mem_of_getElem? (i := 183) rfl) rfl (gi_c (List.mem_of_getElem? (i := 187) rfl) rfl (gi_c (List.mem_of_getElem? (i := 191) rfl) rfl (gi_c (List.mem_of_getElem? (i := 203) rfl) rfl (gi_c (List.mem_of_getElem? (i := 207) rfl) rfl (gi_c (List.mem_of_getElem? (i := 211) rfl) rfl (gi_c (List.mem_of_getElem? (i := 215) rfl) rfl (gi_c (List.mem_of_getElem? (i := 219) rfl) rfl (gi_c (List.mem_of_getElem? (i := 232) rfl) rfl (gi_n))))))))))))))))))))))))))))))))))))))))
set_option maxRecDepth 100000 in
theorem pIn_c_10 : GoodIn tables_1_8 (pCs_10.map pWc) := gi_c (List.mem_of_getElem? (i := 236) rfl) rfl (gi_n)
set_option maxRecDepth 100000 in
theorem pIn_c_11 : GoodIn tables_1_9 (pCs_11.map pWc) := gi_c (List.mem_of_getElem? (i := 28) rfl) rfl (gi_c (List.mem_of_getElem? (i := 32) rfl) rfl (gi_c (List.mem_of_getElem? (i := 36) rfl) rfl (gi_c (List.mem_of_getElem? (i := 40) rfl) rfl (gi_n))))
theorem pIn_c : GoodIn lw_tbl (pCs.map pWc) := goodIn_ma (goodIn_up pt_1 pIn_c_0) (goodIn_ma (goodIn_up pt_2 pIn_c_1) (goodIn_ma (goodIn_up pt_3 pIn_c_2) (goodIn_ma (goodIn_up pt_4 pIn_c_3) (goodIn_ma (goodIn_up pt_4 pIn_c_4) (goodIn_ma (goodIn_up pt_5 pIn_c_5) (goodIn_ma (goodIn_up pt_5 pIn_c_6) (goodIn_ma (goodIn_up pt_6 pIn_c_7) (goodIn_ma (goodIn_up pt_7 pIn_c_8) (goodIn_ma (goodIn_up pt_8 pIn_c_9) (goodIn_ma (goodIn_up pt_8 pIn_c_10) (goodIn_up pt_9 pIn_c_11)))))))))))
set_option maxRecDepth 100000 in
theorem pIn_j_0 : GoodIn tables_1_1 (pJs_0.map pWj) := gi_c (List.mem_of_getElem? (i := 36) rfl) rfl (gi_c (List.mem_of_getElem? (i := 46) rfl) rfl (gi_c (List.mem_of_getElem? (i := 61) rfl) rfl (gi_c (List.mem_of_getElem? (i := 96) rfl) rfl (gi_c (List.mem_of_getElem? (i := 120) rfl) rfl (gi_c (List.mem_of_getElem? (i := 235) rfl) rfl (gi_n))))))
set_option maxRecDepth 100000 in
theorem pIn_j_1 : GoodIn tables_1_2 (pJs_1.map pWj) := gi_c (List.mem_of_getElem? (i := 1) rfl) rfl (gi_c (List.mem_of_getElem? (i := 6) rfl) rfl (gi_c (List.mem_of_getElem? (i := 10) rfl) rfl (gi_c (List.mem_of_getElem? (i := 16) rfl) rfl (gi_c (List.mem_of_getElem? (i := 20) rfl) rfl (gi_c (List.mem_of_getElem? (i := 120) rfl) rfl (gi_c (List.mem_of_getElem? (i := 152) rfl) rfl (gi_c (List.mem_of_getElem? (i := 189) rfl) rfl (gi_c (List.mem_of_getElem? (i := 209) rfl) rfl (gi_n)))))))))
set_option maxRecDepth 100000 in
theorem pIn_j_2 : GoodIn tables_1_3 (pJs_2.map pWj) := gi_c (List.mem_of_getElem? (i := 8) rfl) rfl (gi_c (List.mem_of_getElem? (i := 50) rfl) rfl (gi_c (List.mem_of_getElem? (i := 53) rfl) rfl (gi_c (List.mem_of_getElem? (i := 57) rfl) rfl (gi_c (List.mem_of_getElem? (i := 61) rfl) rfl (gi_c (List.mem_of_getElem? (i := 128) rfl) rfl (gi_c (List.mem_of_getElem? (i := 135) rfl) rfl (gi_c (List.mem_of_getElem? (i := 140) rfl) rfl (gi_c (List.mem_of_getElem? (i := 147) rfl) rfl (gi_c (List.mem_of_getElem? (i := 155) rfl) rfl (gi_c (List.mem_of_getElem? (i := 159) rfl) rfl (gi_c (List.mem_of_getElem? (i := 166) rfl) rfl (gi_c (List.mem_of_getElem? (i := 174) rfl) rfl (gi_c (List.mem_of_getElem? (i := 178) rfl) rfl (gi_c (List.mem_of_getElem? (i := 182) rfl) rfl (gi_c (List.mem_of_getElem? (i := 186) rfl) rfl (gi_c (List.mem_of_getElem? (i := 190) rfl) rfl (gi_c (List.mem_of_getElem? (i := 194) rfl) rfl (gi_c (List.mem_of_getElem? (i := 199) rfl) rfl (gi_c (List.mem_of_getElem? (i := 203) rfl) rfl (gi_c (List.mem_of_getElem? (i := 207) rfl) rfl (gi_c (List.mem_of_getElem? (i := 211) rfl) rfl (gi_c (List.mem_of_getElem? (i := 214) rfl) rfl (gi_c (List.mem_of_getElem? (i := 219) rfl) rfl (gi_c (List.mem_of_getElem? (i := 222) rfl) rfl (gi_c (List.mem_of_getElem? (i := 227) rfl) rfl (gi_c (List.mem_of_getElem? (i := 231) rfl) rfl (gi_c (List.mem_of_getElem? (i := 235) rfl) rfl (gi_c (List.mem_of_getElem? (i := 239) rfl) rfl (gi_n)))))))))))))))))))))))))))))
set_option maxRecDepth 100000 in
theorem pIn_j_3 : GoodIn tables_1_4 (pJs_3.map pWj) := gi_c (List.mem_of_getElem? (i := 3) rfl) rfl (gi_c (List.mem_of_getElem? (i := 7) rfl) rfl (gi_c (List.mem_of_getElem? (i := 11) rfl) rfl (gi_c (List.mem_of_getElem? (i := 15) rfl) rfl (gi_c (List.mem_of_getElem? (i := 19) rfl) rfl (gi_c (List.mem_of_getElem? (i := 24) rfl) rfl (gi_c (List.mem_of_getElem? (i := 27) rfl) rfl (gi_c (List.mem_of_getElem? (i := 32) rfl) rfl (gi_c (List.mem_of_getElem? (i := 35) rfl) rfl (gi_c (List.mem_of_getElem? (i := 40) rfl) rfl (gi_c (List.mem_of_getElem? (i := 44) rfl) rfl (gi_c (List.mem_of_getElem? (i := 48) rfl) rfl (gi_c (List.mem_of_getElem? (i := 55) rfl) rfl (gi_c (List.mem_of_getElem? (i := 59) rfl) rfl (gi_c (List.mem_of_getElem? (i := 78) rfl) rfl (gi_c (List.mem_of_getElem? (i := 86) rfl) rfl (gi_c (List.mem_of_getElem? (i := 94) rfl) rfl (gi_c (List.mem_of_getElem? (i := 100) rfl) rfl (gi_c (List.mem_of_getElem? (i := 104) rfl) rfl (gi_c (List.mem_of_getElem? (i := 112) rfl) rfl (gi_c (List.mem_of_getElem? (i := 119) rfl) rfl (gi_c (List.mem_of_getElem? (i := 141) rfl) rfl (gi_c (List.mem_of_getElem? (i := 151) rfl) rfl (gi_c (List.mem_of_getElem? (i := 155) rfl) rfl (gi_c (List.mem_of_getElem? (i := 159) rfl) rfl (gi_c (List.mem_of_getElem? (i := 176) rfl) rfl (gi_c (List.mem_of_getElem? (i := 180) rfl) rfl (gi_c (List.mem_of_getElem? (i := 203) rfl) rfl (gi_c (List.mem_of_getElem? (i := 206) rfl) rfl (gi_c (List.mem_of_getElem? (i := 214) rfl) rfl (gi_c (List.mem_of_getElem? (i := 231) rfl) rfl (gi_n)))))))))))))))))))))))))))))))
set_option maxRecDepth 100000 in
theorem pIn_j_4 : GoodIn tables_1_5 (pJs_4.map pWj) := gi_c (List.mem_of_getElem? (i := 2) rfl) rfl (gi_c (List.mem_of_getElem? (i := 16) rfl) rfl (gi_c (List.mem_of_getElem? (i := 21) rfl) rfl (gi_c (List.mem_of_getElem? (i := 25) rfl) rfl (gi_c (List.mem_of_getElem? (i := 33) rfl) rfl (gi_c (List.mem_of_getElem? (i := 38) rfl) rfl (gi_c (List.mem_of_getElem? (i := 43) rfl) rfl (gi_c (List.mem_of_getElem? (i := 47) rfl) rfl (gi_c (List.mem_of_getElem? (i := 51) rfl) rfl (gi_c (List.mem_of_getElem? (i := 56) rfl) rfl (gi_c (List.mem_of_getElem? (i := 60) rfl) rfl (gi_c (List.mem_of_getElem? (i := 67) rfl) rfl (gi_c (List.mem_of_getElem? (i := 75) rfl) rfl (gi_c (List.mem_of_getElem? (i := 88) rfl) rfl (gi_c (List.mem_of_getElem? (i := 93) rfl) rfl (gi_c (List.mem_of_getElem? (i := 97) rfl) rfl (gi_c (List.mem_of_getElem? (i := 113) rfl) rfl (gi_c (List.mem_of_getElem? (i := 129) rfl) rfl (gi_c (List.mem_of_getElem? (i := 134) rfl) rfl (gi_c (List.mem_of_getElem? (i := 141) rfl) rfl (gi_c (List.mem_of_getElem? (i := 149) rfl) rfl (gi_c (List.mem_of_getElem? (i := 157) rfl) rfl (gi_c (List.mem_of_getElem? (i := 169) rfl) rfl (gi_c (List.mem_of_getElem? (i := 173) rfl) rfl (gi_c (List.mem_of_getElem? (i := 177) rfl) rfl (gi_c (List.mem_of_getElem? (i := 183) rfl) rfl (gi_c (List.mem_of_getElem? (i := 187) rfl) rfl (gi_c (List.mem_of_getElem? (i := 195) rfl) rfl (gi_c (List.mem_of_getElem? (i := 207) rfl) rfl (gi_c (List.mem_of_getElem? (i := 217) rfl) rfl (gi_c (List.mem_of_getElem? (i := 237) rfl) rfl (gi_n)))))))))))))))))))))))))))))))
set_option maxRecDepth 100000 in
theorem pIn_j_5 : GoodIn tables_1_6 (pJs_5.map pWj) := gi_c (List.mem_of_getElem? (i := 100) rfl) rfl (gi_n)
set_option maxRecDepth 100000 in
theorem pIn_j_6 : GoodIn tables_1_7 (pJs_6.map pWj) := gi_c (List.mem_of_getElem? (i := 101) rfl) rfl (gi_c (List.mem_of_getElem? (i := 105) rfl) rfl (gi_c (List.mem_of_getElem? (i := 109) rfl) rfl (gi_c (List.mem_of_getElem? (i := 116) rfl) rfl (gi_c (List.mem_of_getElem? (i := 123) rfl) rfl (gi_c (List.mem_of_getElem? (i := 131) rfl) rfl (gi_c (List.mem_of_getElem? (i := 135) rfl) rfl (gi_c (List.mem_of_getElem? (i := 139) rfl) rfl (gi_c (List.mem_of_getElem? (i := 143) rfl) rfl (gi_c (List.mem_of_getElem? (i := 147) rfl) rfl (gi_c (List.mem_of_getElem? (i := 151) rfl) rfl (gi_c (List.mem_of_getElem? (i := 155) rfl) rfl (gi_c (List.mem_of_getElem? (i := 162) rfl) rfl (gi_c (List.mem_of_getElem? (i := 166) rfl) rfl (gi_c (List.mem_of_getElem? (i := 170) rfl) rfl (gi_c (List.mem_of_getElem? (i := 174) rfl) rfl (gi_c (List.mem_of_getElem? (i := 178) rfl) rfl (gi_c (List.mem_of_getElem? (i := 182) rfl) rfl (gi_c (List.mem_of_getElem? (i := 186) rfl) rfl (gi_c (List.mem_of_getElem? (i := 190) rfl) rfl (gi_c (List.mem_of_getElem? (i := 194) rfl) rfl (gi_c (List.mem_of_getElem? (i := 198) rfl) rfl (gi_c (List.mem_of_getElem? (i := 202) rfl) rfl (gi_c (List.mem_of_getElem? (i := 206) rfl) rfl (gi_c (List.mem_of_getElem? (i := 210) rfl) rfl (gi_c (List.mem_of_getElem? (i := 214) rfl) rfl (gi_c (List.mem_of_getElem? (i := 218) rfl) rfl (gi_c (List.mem_of_getElem? (i := 237) rfl) rfl (gi_n))))))))))))))))))))))))))))
set_option maxRecDepth 100000 in
theorem pIn_j_7 : GoodIn tables_1_8 (pJs_7.map pWj) := gi_c (List.mem_of_getElem? (i := 1) rfl) rfl (gi_c (List.mem_of_getElem? (i := 10) rfl) rfl (gi_c (List.mem_of_getElem? (i := 18) rfl) rfl (gi_c (List.mem_of_getElem? (i := 29) rfl) rfl (gi_c (List.mem_of_getElem? (i := 33) rfl) rfl (gi_c (List.mem_of_getElem? (i := 39) rfl) rfl (gi_c (List.mem_of_getElem? (i := 43) rfl) rfl (gi_c (List.mem_of_getElem? (i := 47) rfl) rfl (gi_c (List.mem_of_getElem? (i := 51) rfl) rfl (gi_c (List.mem_of_getElem? (i := 69) rfl) rfl (gi_c (List.mem_of_getElem? (i := 73) rfl) rfl (gi_c (List.mem_of_getElem? (i := 82) rfl) rfl (gi_c (List.mem_of_getElem? (i := 86) rfl) rfl (gi_c (List.mem_of_getElem? (i := 99) rfl) rfl (gi_c (List.mem_of_getElem? (i := 103) rfl) rfl (gi_c (List.mem_of_getElem? (i := 107) rfl) rfl (gi_c (List.mem_of_getElem? (i := 127) rfl) rfl (gi_c (List.mem_of_getElem? (i := 131) rfl) rfl (gi_c (List.mem_of_getElem? (i := 135) rfl) rfl (gi_c (List.mem_of_getElem? (i := 141) rfl) rfl (gi_c (List.mem_of_getElem? (i := 153) rfl) rfl (gi_c (List.mem_of_getElem? (i := 157) rfl) rfl (gi_c (List.mem_of_getElem? (i := 161) rfl) rfl (gi_c (List.mem_of_getElem? (i := 169) rfl) rfl (gi_c (List.mem_of_getElem? (i := 181) rfl) rfl (gi_c (List.mem_of_getElem? (i := 185) rfl) rfl (gi_c (List.mem_of_getElem? (i := 189) rfl) rfl (gi_c (List.mem_of_getElem? (i := 193) rfl) rfl (gi_c (List.mem_of_getElem? (i := 205) rfl) rfl (gi_c (List.mem_of_getElem? (i := 209) rfl) rfl (gi_c (List.mem_of_getElem? (i := 213) rfl) rfl (gi_c (List.mem_of_getElem? (i := 217) rfl) rfl (gi_c (List.mem_of_getElem? (i := 234) rfl) rfl (gi_c (List.mem_of_getElem? (i := 238) rfl) rfl (gi_n))))))))))))))))))))))))))))))))))
set_option maxRecDepth 100000 in
theorem pIn_j_8 : GoodIn tables_1_9 (pJs_8.map pWj) := gi_c (List.mem_of_getElem? (i := 30) rfl) rfl (gi_c (List.mem_of_getElem? (i := 34) rfl) rfl (gi_c (List.mem_of_getElem? (i := 38) rfl) rfl (gi_c (List.mem_of_getElem? (i := 42) rfl) rfl (gi_n))))
theorem pIn_j : GoodIn lw_tbl (pJs.map pWj) := goodIn_ma (goodIn_up pt_1 pIn_j_0) (goodIn_ma (goodIn_up pt_2 pIn_j_1) (goodIn_ma (goodIn_up pt_3 pIn_j_2) (goodIn_ma (goodIn_up pt_4 pIn_j_3) (goodIn_ma (goodIn_up pt_5 pIn_j_4) (goodIn_ma (goodIn_up pt_6 pIn_j_5) (goodIn_ma (goodIn_up pt_7 pIn_j_6) (goodIn_ma (goodIn_up pt_8 pIn_j_7) (goodIn_up pt_9 pIn_j_8))))))))
set_option maxRecDepth 100000 in
theorem pIn_s_0 : GoodIn (k2_sels lw_privs) (pSs_0.map pWs) := gi_c (List.mem_of_getElem? (i := 0) rfl) rfl (gi_c (List.mem_of_getElem? (i := 1) rfl) rfl (gi_c (List.mem_of_getElem? (i := 2) rfl) rfl (gi_c (List.mem_of_getElem? (i := 3) rfl) rfl (gi_c (List.mem_of_getElem? (i := 4) rfl) rfl (gi_c (List.mem_of_getElem? (i := 5) rfl) rfl (gi_c (List.mem_of_getElem? (i := 6) rfl) rfl (gi_c (List.mem_of_getElem? (i := 7) rfl) rfl (gi_c (List.mem_of_getElem? (i := 8) rfl) rfl (gi_c (List.mem_of_getElem? (i := 9) rfl) rfl (gi_c (List.mem_of_getElem? (i := 10) rfl) rfl (gi_c (List.mem_of_getElem? (i := 11) rfl) rfl (gi_c (List.mem_of_getElem? (i := 12) rfl) rfl (gi_c (List.mem_of_getElem? (i := 13) rfl) rfl (gi_c (List.mem_of_getElem? (i := 14) rfl) rfl (gi_c (List.mem_of_getElem? (i := 15) rfl) rfl (gi_c (List.mem_of_getElem? (i := 16) rfl) rfl (gi_c (List.mem_of_getElem? (i := 17) rfl) rfl (gi_c (List.mem_of_getElem? (i := 18) rfl) rfl (gi_c (List.mem_of_getElem? (i := 19) rfl) rfl (gi_c (List.mem_of_getElem? (i := 20) rfl) rfl (gi_c (List.mem_of_getElem? (i := 21) rfl) rfl (gi_c (List.mem_of_getElem? (i := 22) rfl) rfl (gi_c (List.mem_of_getElem? (i := 23) rfl) rfl (gi_c (List.mem_of_getElem? (i := 24) rfl) rfl (gi_c (List.mem_of_getElem? (i := 25) rfl) rfl (gi_c (List.mem_of_getElem? (i := 26) rfl) rfl (gi_c (List.mem_of_getElem? (i := 27) rfl) rfl (gi_c (List.mem_of_getElem? (i := 28) rfl) rfl (gi_c (List.mem_of_getElem? (i := 29) rfl) rfl (gi_c (List.mem_of_getElem? (i := 30) rfl) rfl (gi_c (List.mem_of_getElem? (i := 31) rfl) rfl (gi_c (List.mem_of_getElem? (i := 32) rfl) rfl (gi_c (List.mem_of_getElem? (i := 33) rfl) rfl (gi_c (List.mem_of_getElem? (i := 34) rfl) rfl (gi_c (List.mem_of_getElem? (i := 35) rfl) rfl (gi_c (List.mem_of_getElem? (i := 36) rfl) rfl (gi_c (List.mem_of_getElem? (i := 37) rfl) rfl (gi_c (List.mem_of_getElem? (i := 38) rfl) rfl (gi_c (List.mem_of_getElem? (i := 39) rfl) rfl (gi_n))))))))))))))))))))))))))))))))))))))))
set_option maxRecDepth 100000 in
theorem pIn_s_1 : GoodIn (k2_sels lw_privs) (pSs_1.map pWs) := gi_c (List.mem_of_getElem? (i := 40) rfl) rfl (gi_c (List.mem_of_getElem? (i := 41) rfl) rfl (gi_c (List.mem_of_getElem? (i := 42) rfl) rfl (gi_c (List.mem_of_getElem? (i := 43) rfl) rfl (gi_c (List.mem_of_getElem? (i := 44) rfl) rfl (gi_c (List.mem_of_getElem? (i := 45) rfl) rfl (gi_c (List.mem_of_getElem? (i := 46) rfl) rfl (gi_c (List.mem_of_getElem? (i := 47) rfl) rfl (gi_c (List.mem_of_getElem? (i := 48) rfl) rfl (gi_c (List.mem_of_getElem? (i := 49) rfl) rfl (gi_c (List.mem_of_getElem? (i := 50) rfl) rfl (gi_c (List.mem_of_getElem? (i := 52) rfl) rfl (gi_c (List.mem_of_getElem? (i := 53) rfl) rfl (gi_c (List.mem_of_getElem? (i := 54) rfl) rfl (gi_c (List.mem_of_getElem? (i := 55) rfl) rfl (gi_c (List.mem_of_getElem? (i := 56) rfl) rfl (gi_c (List.mem_of_getElem? (i := 57) rfl) rfl (gi_c (List.mem_of_getElem? (i := 58) rfl) rfl (gi_c (List.mem_of_getElem? (i := 59) rfl) rfl (gi_c (List.mem_of_getElem? (i := 60) rfl) rfl (gi_c (List.mem_of_getElem? (i := 61) rfl) rfl (gi_c (List.mem_of_getElem? (i := 62) rfl) rfl (gi_c (List.mem_of_getElem? (i := 63) rfl) rfl (gi_c (List.mem_of_getElem? (i := 64) rfl) rfl (gi_c (List.mem_of_getElem? (i := 65) rfl) rfl (gi_c (List.mem_of_getElem? (i := 66) rfl) rfl (gi_c (List.mem_of_getElem? (i := 67) rfl) rfl (gi_c (List.mem_of_getElem? (i := 68) rfl) rfl (gi_c (List.mem_of_getElem? (i := 69) rfl) rfl (gi_c (List.mem_of_getElem? (i := 70) rfl) rfl (gi_c (List.mem_of_getElem? (i := 71) rfl) rfl (gi_c (List.mem_of_getElem? (i := 72) rfl) rfl (gi_c (List.mem_of_getElem? (i := 73) rfl) rfl (gi_c (List.mem_of_getElem? (i := 74) rfl) rfl (gi_c (List.mem_of_getElem? (i := 75) rfl) rfl (gi_c (List.mem_of_getElem? (i := 76) rfl) rfl (gi_c (List.mem_of_getElem? (i := 77) rfl) rfl (gi_c (List.mem_of_getElem? (i := 78) rfl) rfl (gi_c (List.mem_of_getElem? (i := 79) rfl) rfl (gi_c (List.mem_of_getElem? (i := 80) rfl) rfl (gi_n))))))))))))))))))))))))))))))))))))))))
set_option maxRecDepth 100000 in
theorem pIn_s_2 : GoodIn (k2_sels lw_privs) (pSs_2.map pWs) := gi_c (List.mem_of_getElem? (i := 81) rfl) rfl (gi_c (List.mem_of_getElem? (i := 82) rfl) rfl (gi_c (List.mem_of_getElem? (i := 83) rfl) rfl (gi_c (List.mem_of_getElem? (i := 84) rfl) rfl (gi_c (List.mem_of_getElem? (i := 85) rfl) rfl (gi_c (List.mem_of_getElem? (i := 86) rfl) rfl (gi_c (List.mem_of_getElem? (i := 87) rfl) rfl (gi_c (List.mem_of_getElem? (i := 88) rfl) rfl (gi_c (List.mem_of_getElem? (i := 89) rfl) rfl (gi_c (List.mem_of_getElem? (i := 90) rfl) rfl (gi_c (List.mem_of_getElem? (i := 91) rfl) rfl (gi_c (List.mem_of_getElem? (i := 92) rfl) rfl (gi_c (List.mem_of_getElem? (i := 93) rfl) rfl (gi_c (List.mem_of_getElem? (i := 94) rfl) rfl (gi_c (List.mem_of_getElem? (i := 95) rfl) rfl (gi_c (List.mem_of_getElem? (i := 96) rfl) rfl (gi_c (List.mem_of_getElem? (i := 97) rfl) rfl (gi_c (List.mem_of_getElem? (i := 98) rfl) rfl (gi_c (List.mem_of_getElem? (i := 99) rfl) rfl (gi_c (List.mem_of_getElem? (i := 100) rfl) rfl (gi_c (List.mem_of_getElem? (i := 101) rfl) rfl (gi_c (List.mem_of_getElem? (i := 102) rfl) rfl (gi_c (List.mem_of_getElem? (i := 103) rfl) rfl (gi_c (List.mem_of_getElem? (i := 104) rfl) rfl (gi_c (List.mem_of_getElem? (i := 105) rfl) rfl (gi_c (List.mem_of_getElem? (i := 106) rfl) rfl (gi_c (List.mem_of_getElem? (i := 107) rfl) rfl (gi_c (List.mem_of_getElem? (i := 108) rfl) rfl (gi_c (List.mem_of_getElem? (i := 109) rfl) rfl (gi_c (List.mem_of_getElem? (i := 110) rfl) rfl (gi_c (List.mem_of_getElem? (i := 111) rfl) rfl (gi_c (List.mem_of_getElem? (i := 112) rfl) rfl (gi_c (List.mem_of_getElem? (i := 113) rfl) rfl (gi_c (List.mem_of_getElem? (i := 114) rfl) rfl (gi_c (List.mem_of_getElem? (i := 115) rfl) rfl (gi_c (List.mem_of_getElem? (i := 116) rfl) rfl (gi_c (List.mem_of_getElem? (i := 117) rfl) rfl (gi_c (List.mem_of_getElem? (i := 118) rfl) rfl (gi_n))))))))))))))))))))))))))))))))))))))
set_option maxRecDepth 100000 in
theorem pIn_s_3 : GoodIn tables_1_1 (pSs_3.map pWs) := gi_c (List.mem_of_getElem? (i := 121) rfl) rfl (gi_n)
set_option maxRecDepth 100000 in
theorem pIn_s_4 : GoodIn tables_1_2 (pSs_4.map pWs) := gi_c (List.mem_of_getElem? (i := 7) rfl) rfl (gi_c (List.mem_of_getElem? (i := 11) rfl) rfl (gi_c (List.mem_of_getElem? (i := 17) rfl) rfl (gi_c (List.mem_of_getElem? (i := 21) rfl) rfl (gi_n))))
set_option maxRecDepth 100000 in
theorem pIn_s_5 : GoodIn tables_1_3 (pSs_5.map pWs) := gi_c (List.mem_of_getElem? (i := 54) rfl) rfl (gi_c (List.mem_of_getElem? (i := 58) rfl) rfl (gi_c (List.mem_of_getElem? (i := 62) rfl) rfl (gi_c (List.mem_of_getElem? (i := 136) rfl) rfl (gi_c (List.mem_of_getElem? (i := 141) rfl) rfl (gi_c (List.mem_of_getElem? (i := 148) rfl) rfl (gi_c (List.mem_of_getElem? (i := 195) rfl) rfl (gi_c (List.mem_of_getElem? (i := 215) rfl) rfl (gi_c (List.mem_of_getElem? (i := 223) rfl) rfl (gi_n)))))))))
set_option maxRecDepth 100000 in
theorem pIn_s_6 : GoodIn tables_1_4 (pSs_6.map pWs) := gi_c (List.mem_of_getElem? (i := 28) rfl) rfl (gi_c (List.mem_of_getElem? (i := 36) rfl) rfl (gi_c (List.mem_of_getElem? (i := 101) rfl) rfl (gi_c (List.mem_of_getElem? (i := 105) rfl) rfl (gi_c (List.mem_of_getElem? (i := 113) rfl) rfl (gi_c (List.mem_of_getElem? (i := 120) rfl) rfl (gi_c (List.mem_of_getElem? (i := 142) rfl) rfl (gi_c (List.mem_of_getElem? (i := 152) rfl) rfl (gi_c (List.mem_of_getElem? (i := 156) rfl) rfl (gi_c (List.mem_of_getElem? (i := 160) rfl) rfl (gi_c (List.mem_of_getElem? (i := 207) rfl) rfl (gi_c (List.mem_of_getElem? (i := 232) rfl) rfl (gi_n))))))))))))
set_option maxRecDepth 100000 in
theorem pIn_s_7 : GoodIn tables_1_5 (pSs_7.map pWs) := gi_c (List.mem_of_getElem? (i := 17) rfl) rfl (gi_c (List.mem_of_getElem? (i := 26) rfl) rfl (gi_c (List.mem_of_getElem? (i := 44) rfl) rfl (gi_c (List.mem_of_getElem? (i := 48) rfl) rfl (gi_c (List.mem_of_getElem? (i := 52) rfl) rfl (gi_c (List.mem_of_getElem? (i := 76) rfl) rfl (gi_c (List.mem_of_getElem? (i := 130) rfl) rfl (gi_c (List.mem_of_getElem? (i := 142) rfl) rfl (gi_c (List.mem_of_getElem? (i := 150) rfl) rfl (gi_c (List.mem_of_getElem? (i := 158) rfl) rfl (gi_c (List.mem_of_getElem? (i := 170) rfl) rfl (gi_c (List.mem_of_getElem? (i := 174) rfl) rfl (gi_c (List.mem_of_getElem? (i := 178) rfl) rfl (gi_c (List.mem_of_getElem? (i := 184) rfl) rfl (gi_c (List.mem_of_getElem? (i := 188) rfl) rfl (gi_c (List.mem_of_getElem? (i := 196) rfl) rfl (gi_c (List.mem_of_getElem? (i := 208) rfl) rfl (gi_c (List.mem_of_getElem? (i := 238) rfl) rfl (gi_n))))))))))))))))))
theorem pIn_s : GoodIn lw_tbl (pSs.map pWs) := goodIn_ma (goodIn_up pt_0 pIn_s_0) (goodIn_ma (goodIn_up pt_0 pIn_s_1) (goodIn_ma (goodIn_up pt_0 pIn_s_2) (goodIn_ma (goodIn_up pt_1 pIn_s_3) (goodIn_ma (goodIn_up pt_2 pIn_s_4) (goodIn_ma (goodIn_up pt_3 pIn_s_5) (goodIn_ma (goodIn_up pt_4 pIn_s_6) (goodIn_up pt_5 pIn_s_7)))))))
set_option maxRecDepth 100000 in
theorem pIn_t_0 : GoodIn tables_1_2 (pTt_0.map pWt) := gi_c (List.mem_of_getElem? (i := 24) rfl) rfl (gi_c (List.mem_of_getElem? (i := 27) rfl) rfl (gi_c (List.mem_of_getElem? (i := 32) rfl) rfl (gi_c (List.mem_of_getElem? (i := 54) rfl) rfl (gi_n))))
set_option maxRecDepth 100000 in
theorem pIn_t_1 : GoodIn tables_1_3 (pTt_1.map pWt) := gi_c (List.mem_of_getElem? (i := 144) rfl) rfl (gi_c (List.mem_of_getElem? (i := 151) rfl) rfl (gi_c (List.mem_of_getElem? (i := 162) rfl) rfl (gi_c (List.mem_of_getElem? (i := 170) rfl) rfl (gi_n))))
set_option maxRecDepth 100000 in
theorem pIn_t_2 : GoodIn tables_1_4 (pTt_2.map pWt) := gi_c (List.mem_of_getElem? (i := 51) rfl) rfl (gi_c (List.mem_of_getElem? (i := 97) rfl) rfl (gi_c (List.mem_of_getElem? (i := 109) rfl) rfl (gi_c (List.mem_of_getElem? (i := 116) rfl) rfl (gi_c (List.mem_of_getElem? (i := 123) rfl) rfl (gi_c (List.mem_of_getElem? (i := 131) rfl) rfl (gi_c (List.mem_of_getElem? (i := 134) rfl) rfl (gi_n)))))))
set_option maxRecDepth 100000 in
theorem pIn_t_3 : GoodIn tables_1_5 (pTt_3.map pWt) := gi_c (List.mem_of_getElem? (i := 9) rfl) rfl (gi_c (List.mem_of_getElem? (i := 63) rfl) rfl (gi_c (List.mem_of_getElem? (i := 83) rfl) rfl (gi_n)))
set_option maxRecDepth 100000 in
theorem pIn_t_4 : GoodIn tables_1_7 (pTt_4.map pWt) := gi_c (List.mem_of_getElem? (i := 112) rfl) rfl (gi_c (List.mem_of_getElem? (i := 126) rfl) rfl (gi_c (List.mem_of_getElem? (i := 158) rfl) rfl (gi_c (List.mem_of_getElem? (i := 221) rfl) rfl (gi_n))))
set_option maxRecDepth 100000 in
theorem pIn_t_5 : GoodIn tables_1_8 (pTt_5.map pWt) := gi_c (List.mem_of_getElem? (i := 25) rfl) rfl (gi_c (List.mem_of_getElem? (i := 54) rfl) rfl (gi_c (List.mem_of_getElem? (i := 57) rfl) rfl (gi_n)))
theorem pIn_t : GoodIn lw_tbl (pTt.map pWt) := goodIn_ma (goodIn_up pt_2 pIn_t_0) (goodIn_ma (goodIn_up pt_3 pIn_t_1) (goodIn_ma (goodIn_up pt_4 pIn_t_2) (goodIn_ma (goodIn_up pt_5 pIn_t_3) (goodIn_ma (goodIn_up pt_7 pIn_t_4) (goodIn_up pt_8 pIn_t_5)))))
set_option maxRecDepth 100000 in
theorem pIn_k_0 : GoodIn tables_1_3 (pKs_0.map pWk) := gi_c (List.mem_of_getElem? (i := 168) rfl) rfl (gi_n)
set_option maxRecDepth 100000 in
theorem pIn_k_1 : GoodIn tables_1_4 (pKs_1.map pWk) := gi_c (List.mem_of_getElem? (i := 21) rfl) rfl (gi_c (List.mem_of_getElem? (i := 149) rfl) rfl (gi_n))
set_option maxRecDepth 100000 in
theorem pIn_k_2 : GoodIn tables_1_5 (pKs_2.map pWk) := gi_c (List.mem_of_getElem? (i := 28) rfl) rfl (gi_c (List.mem_of_getElem? (i := 29) rfl) rfl (gi_c (List.mem_of_getElem? (i := 90) rfl) rfl (gi_n)))
set_option maxRecDepth 100000 in
theorem pIn_k_3 : GoodIn tables_1_7 (pKs_3.map pWk) := gi_c (List.mem_of_getElem? (i := 128) rfl) rfl (gi_n)
set_option maxRecDepth 100000 in
theorem pIn_k_4 : GoodIn tables_1_8 (pKs_4.map pWk) := gi_c (List.mem_of_getElem? (i := 79) rfl) rfl (gi_c (List.mem_of_getElem? (i := 137) rfl) rfl (gi_c (List.mem_of_getElem? (i := 138) rfl) rfl (gi_n)))
theorem pIn_k : GoodIn lw_tbl (pKs.map pWk) := goodIn_ma (goodIn_up pt_3 pIn_k_0) (goodIn_ma (goodIn_up pt_4 pIn_k_1) (goodIn_ma (goodIn_up pt_5 pIn_k_2) (goodIn_ma (goodIn_up pt_7 pIn_k_3) (goodIn_up pt_8 pIn_k_4))))
set_option maxRecDepth 100000 in
theorem pIn_l_0 : GoodIn tables_1_4 (pK2_0.map pWl) := gi_c (List.mem_of_getElem? (i := 107) rfl) rfl (gi_c (List.mem_of_getElem? (i := 125) rfl) rfl (gi_c (List.mem_of_getElem? (i := 126) rfl) rfl (gi_c (List.mem_of_getElem? (i := 127) rfl) rfl (gi_c (List.mem_of_getElem? (i := 128) rfl) rfl (gi_c (List.mem_of_getElem? (i := 129) rfl) rfl (gi_c (List.mem_of_getElem? (i := 144) rfl) rfl (gi_c (List.mem_of_getElem? (i := 167) rfl) rfl (gi_c (List.mem_of_getElem? (i := 216) rfl) rfl (gi_c (List.mem_of_getElem? (i := 217) rfl) rfl (gi_c (List.mem_of_getElem? (i := 218) rfl) rfl (gi_c (List.mem_of_getElem? (i := 219) rfl) rfl (gi_c (List.mem_of_getElem? (i := 220) rfl) rfl (gi_n)))))))))))))
set_option maxRecDepth 100000 in
theorem pIn_l_1 : GoodIn tables_1_8 (pK2_1.map pWl) := gi_c (List.mem_of_getElem? (i := 35) rfl) rfl (gi_c (List.mem_of_getElem? (i := 59) rfl) rfl (gi_c (List.mem_of_getElem? (i := 60) rfl) rfl (gi_c (List.mem_of_getElem? (i := 92) rfl) rfl (gi_n))))
theorem pIn_l : GoodIn lw_tbl (pK2.map pWl) := goodIn_ma (goodIn_up pt_4 pIn_l_0) (goodIn_up pt_8 pIn_l_1)
set_option maxRecDepth 100000 in
theorem pIn_n_0 : GoodIn tables_1_1 (pNs_0.map pWn) := gi_c (List.mem_of_getElem? (i := 33) rfl) rfl (gi_c (List.mem_of_getElem? (i := 39) rfl) rfl (gi_c (List.mem_of_getElem? (i := 41) rfl) rfl (gi_c (List.mem_of_getElem? (i := 43) rfl) rfl (gi_c (List.mem_of_getElem? (i := 232) rfl) rfl (gi_c (List.mem_of_getElem? (i := 238) rfl) rfl (gi_n))))))
set_option maxRecDepth 100000 in
theorem pIn_n_1 : GoodIn tables_1_2 (pNs_1.map pWn) := gi_c (List.mem_of_getElem? (i := 117) rfl) rfl (gi_c (List.mem_of_getElem? (i := 149) rfl) rfl (gi_c (List.mem_of_getElem? (i := 186) rfl) rfl (gi_c (List.mem_of_getElem? (i := 206) rfl) rfl (gi_n))))
set_option maxRecDepth 100000 in
theorem pIn_n_2 : GoodIn tables_1_3 (pNs_2.map pWn) := gi_c (List.mem_of_getElem? (i := 5) rfl) rfl (gi_n)
theorem pIn_n : GoodIn lw_tbl (pNs.map pWn) := goodIn_ma (goodIn_up pt_1 pIn_n_0) (goodIn_ma (goodIn_up pt_2 pIn_n_1) (goodIn_up pt_3 pIn_n_2))
set_option maxRecDepth 100000 in
theorem pIn_a_0 : GoodIn tables_1_1 (pAn_0.map pWa) := gi_c (List.mem_of_getElem? (i := 39) rfl) rfl (gi_c (List.mem_of_getElem? (i := 41) rfl) rfl (gi_n))
theorem pIn_a : GoodIn lw_tbl (pAn.map pWa) := goodIn_up pt_1 pIn_a_0
set_option maxRecDepth 100000 in
theorem pIn_i_0 : GoodIn tables_1_1 (pIz_0.map pWi) := gi_c (List.mem_of_getElem? (i := 26) rfl) rfl (gi_c (List.mem_of_getElem? (i := 34) rfl) rfl (gi_c (List.mem_of_getElem? (i := 44) rfl) rfl (gi_c (List.mem_of_getElem? (i := 59) rfl) rfl (gi_c (List.mem_of_getElem? (i := 94) rfl) rfl (gi_c (List.mem_of_getElem? (i := 233) rfl) rfl (gi_c (List.mem_of_getElem? (i := 239) rfl) rfl (gi_n)))))))
set_option maxRecDepth 100000 in
theorem pIn_i_1 : GoodIn tables_1_2 (pIz_1.map pWi) := gi_c (List.mem_of_getElem? (i := 118) rfl) rfl (gi_c (List.mem_of_getElem? (i := 150) rfl) rfl (gi_c (List.mem_of_getElem? (i := 187) rfl) rfl (gi_c (List.mem_of_getElem? (i := 207) rfl) rfl (gi_n))))
set_option maxRecDepth 100000 in
theorem pIn_i_2 : GoodIn tables_1_3 (pIz_2.map pWi) := gi_c (List.mem_of_getElem? (i := 6) rfl) rfl (gi_n)
set_option maxRecDepth 100000 in
theorem pIn_i_3 : GoodIn tables_1_6 (pIz_3.map pWi) := gi_c (List.mem_of_getElem? (i := 93) rfl) rfl (gi_n)
theorem pIn_i : GoodIn lw_tbl (pIz.map pWi) := goodIn_ma (goodIn_up pt_1 pIn_i_0) (goodIn_ma (goodIn_up pt_2 pIn_i_1) (goodIn_ma (goodIn_up pt_3 pIn_i_2) (goodIn_up pt_6 pIn_i_3)))
set_option maxRecDepth 100000 in
theorem pIn_z_0 : GoodIn tables_1_1 (pZz_0.map pWz) := gi_c (List.mem_of_getElem? (i := 1) rfl) rfl (gi_c (List.mem_of_getElem? (i := 2) rfl) rfl (gi_c (List.mem_of_getElem? (i := 3) rfl) rfl (gi_c (List.mem_of_getElem? (i := 4) rfl) rfl (gi_c (List.mem_of_getElem? (i := 5) rfl) rfl (gi_c (List.mem_of_getElem? (i := 6) rfl) rfl (gi_c (List.mem_of_getElem? (i := 7) rfl) rfl (gi_c (List.mem_of_getElem? (i := 8) rfl) rfl (gi_c (List.mem_of_getElem? (i := 9) rfl) rfl (gi_c (List.mem_of_getElem? (i := 10) rfl) rfl (gi_c (List.mem_of_getElem? (i := 12) rfl) rfl (gi_c (List.mem_of_getElem? (i := 13) rfl) rfl (gi_c (List.mem_of_getElem? (i := 14) rfl) rfl (gi_c (List.mem_of_getElem? (i := 15) rfl) rfl (gi_c (List.mem_of_getElem? (i := 16) rfl) rfl (gi_c (List.mem_of_getElem? (i := 17) rfl) rfl (gi_c (List.mem_of_getElem? (i := 18) rfl) rfl (gi_n)))))))))))))))))
theorem pIn_z : GoodIn lw_tbl (pZz.map pWz) := goodIn_up pt_1 pIn_z_0
set_option maxRecDepth 100000 in
theorem pIn_u_0 : GoodIn tables_1_1 (pUu_0.map pWu) := gi_c (List.mem_of_getElem? (i := 52) rfl) rfl (gi_c (List.mem_of_getElem? (i := 54) rfl) rfl (gi_c (List.mem_of_getElem? (i := 81) rfl) rfl (gi_c (List.mem_of_getElem? (i := 83) rfl) rfl (gi_c (List.mem_of_getElem? (i := 85) rfl) rfl (gi_c (List.mem_of_getElem? (i := 87) rfl) rfl (gi_c (List.mem_of_getElem? (i := 89) rfl) rfl (gi_c (List.mem_of_getElem? (i := 91) rfl) rfl (gi_c (List.mem_of_getElem? (i := 110) rfl) rfl (gi_c (List.mem_of_getElem? (i := 112) rfl) rfl (gi_c (List.mem_of_getElem? (i := 114) rfl) rfl (gi_c (List.mem_of_getElem? (i := 116) rfl) rfl (gi_c (List.mem_of_getElem? (i := 195) rfl) rfl (gi_c (List.mem_of_getElem? (i := 197) rfl) rfl (gi_c (List.mem_of_getElem? (i := 199) rfl) rfl (gi_c (List.mem_of_getElem? (i := 201) rfl) rfl (gi_c (List.mem_of_getElem? (i := 203) rfl) rfl (gi_c (List.mem_of_getElem? (i := 205) rfl) rfl (gi_c (List.mem_of_getElem? (i := 207) rfl) rfl (gi_c (List.mem_of_getElem? (i := 209) rfl) rfl (gi_c (List.mem_of_getElem? (i := 211) rfl) rfl (gi_c (List.mem_of_getElem? (i := 213) rfl) rfl (gi_c (List.mem_of_getElem? (i := 215) rfl) rfl (gi_c (List.mem_of_getElem? (i := 217) rfl) rfl (gi_c (List.mem_of_getElem? (i := 219) rfl) rfl (gi_c (List.mem_of_getElem? (i := 221) rfl) rfl (gi_c (List.mem_of_getElem? (i := 223) rfl) rfl (gi_c (List.mem_of_getElem? (i := 225) rfl) rfl (gi_c (List.mem_of_getElem? (i := 227) rfl) rfl (gi_c (List.mem_of_getElem? (i := 229) rfl) rfl (gi_n))))))))))))))))))))))))))))))
set_option maxRecDepth 100000 in
theorem pIn_u_1 : GoodIn tables_1_2 (pUu_1.map pWu) := gi_c (List.mem_of_getElem? (i := 66) rfl) rfl (gi_c (List.mem_of_getElem? (i := 68) rfl) rfl (gi_c (List.mem_of_getElem? (i := 70) rfl) rfl (gi_c (List.mem_of_getElem? (i := 72) rfl) rfl (gi_c (List.mem_of_getElem? (i := 74) rfl) rfl (gi_c (List.mem_of_getElem? (i := 76) rfl) rfl (gi_c (List.mem_of_getElem? (i := 78) rfl) rfl (gi_c (List.mem_of_getElem? (i := 94) rfl) rfl (gi_c (List.mem_of_getElem? (i := 96) rfl) rfl (gi_c (List.mem_of_getElem? (i := 98) rfl) rfl (gi_c (List.mem_of_getElem? (i := 100) rfl) rfl (gi_c (List.mem_of_getElem? (i := 102) rfl) rfl (gi_c (List.mem_of_getElem? (i := 104) rfl) rfl (gi_c (List.mem_of_getElem? (i := 106) rfl) rfl (gi_c (List.mem_of_getElem? (i := 108) rfl) rfl (gi_c (List.mem_of_getElem? (i := 110) rfl) rfl (gi_c (List.mem_of_getElem? (i := 112) rfl) rfl (gi_c (List.mem_of_getElem? (i := 114) rfl) rfl (gi_c (List.mem_of_getElem? (i := 131) rfl) rfl (gi_c (List.mem_of_getElem? (i := 133) rfl) rfl (gi_c (List.mem_of_getElem? (i := 135) rfl) rfl (gi_c (List.mem_of_getElem? (i := 137) rfl) rfl (gi_c (List.mem_of_getElem? (i := 139) rfl) rfl (gi_c (List.mem_of_getElem? (i := 141) rfl) rfl (gi_c (List.mem_of_getElem? (i := 143) rfl) rfl (gi_c (List.mem_of_getElem? (i := 145) rfl) rfl (gi_c (List.mem_of_getElem? (i := 167) rfl) rfl (gi_c (List.mem_of_getElem? (i := 169) rfl) rfl (gi_c (List.mem_of_getElem? (i := 171) rfl) rfl (gi_c (List.mem_of_getElem? (i := 173) rfl) rfl (gi_c (List.mem_of_getElem? (i := 175) rfl) rfl (gi_c (List.mem_of_getElem? (i := 177) rfl) rfl (gi_c (List.mem_of_getElem? (i := 179) rfl) rfl (gi_c (List.mem_of_getElem? (i := 181) rfl) rfl (gi_c (List.mem_of_getElem? (i := 183) rfl) rfl (gi_c (List.mem_of_getElem? (i := 197) rfl) rfl (gi_c (List.mem_of_getElem? (i := 199) rfl) rfl (gi_c (List.mem_of_getElem? (i := 201) rfl) rfl (gi_c (List.mem_of_getElem? (i := 203) rfl) rfl (gi_c (List.mem_of_getElem? (i := 227) rfl) rfl (gi_n))))))))))))))))))))))))))))))))))))))))
set_option maxRecDepth 100000 in
theorem pIn_u_2 : GoodIn tables_1_2 (pUu_2.map pWu) := gi_c (List.mem_of_getElem? (i := 229) rfl) rfl (gi_c (List.mem_of_getElem? (i := 231) rfl) rfl (gi_c (List.mem_of_getElem? (i := 233) rfl) rfl (gi_c (List.mem_of_getElem? (i := 235) rfl) rfl (gi_c (List.mem_of_getElem? (i := 237) rfl) rfl (gi_c (List.mem_of_getElem? (i := 239) rfl) rfl (gi_n))))))
set_option maxRecDepth 100000 in
theorem pIn_u_3 : GoodIn tables_1_3 (pUu_3.map pWu) := gi_c (List.mem_of_getElem? (i := 1) rfl) rfl (gi_c (List.mem_of_getElem? (i := 31) rfl) rfl (gi_c (List.mem_of_getElem? (i := 33) rfl) rfl (gi_c (List.mem_of_getElem? (i := 35) rfl) rfl (gi_c (List.mem_of_getElem? (i := 37) rfl) rfl (gi_c (List.mem_of_getElem? (i := 39) rfl) rfl (gi_c (List.mem_of_getElem? (i := 41) rfl) rfl (gi_c (List.mem_of_getElem? (i := 43) rfl) rfl (gi_c (List.mem_of_getElem? (i := 45) rfl) rfl (gi_c (List.mem_of_getElem? (i := 83) rfl) rfl (gi_c (List.mem_of_getElem? (i := 85) rfl) rfl (gi_c (List.mem_of_getElem? (i := 87) rfl) rfl (gi_c (List.mem_of_getElem? (i := 89) rfl) rfl (gi_c (List.mem_of_getElem? (i := 91) rfl) rfl (gi_c (List.mem_of_getElem? (i := 93) rfl) rfl (gi_c (List.mem_of_getElem? (i := 95) rfl) rfl (gi_c (List.mem_of_getElem? (i := 97) rfl) rfl (gi_c (List.mem_of_getElem? (i := 99) rfl) rfl (gi_c (List.mem_of_getElem? (i := 101) rfl) rfl (gi_c (List.mem_of_getElem? (i := 103) rfl) rfl (gi_c (List.mem_of_getElem? (i := 105) rfl) rfl (gi_c (List.mem_of_getElem? (i := 107) rfl) rfl (gi_c (List.mem_of_getElem? (i := 109) rfl) rfl (gi_c (List.mem_of_getElem? (i := 111) rfl) rfl (gi_c (List.mem_of_getElem? (i := 113) rfl) rfl (gi_c (List.mem_of_getElem? (i := 115) rfl) rfl (gi_c (List.mem_of_getElem? (i := 117) rfl) rfl (gi_c (List.mem_of_getElem? (i := 119) rfl) rfl (gi_n))))))))))))))))))))))))))))
set_option maxRecDepth 100000 in
theorem pIn_u_4 : GoodIn tables_1_6 (pUu_4.map pWu) := gi_c (List.mem_of_getElem? (i := 178) rfl) rfl (gi_c (List.mem_of_getElem? (i := 180) rfl) rfl (gi_c (List.mem_of_getElem? (i := 182) rfl) rfl (gi_c (List.mem_of_getElem? (i := 184) rfl) rfl (gi_c (List.mem_of_getElem? (i := 186) rfl) rfl (gi_c (List.mem_of_getElem? (i := 188) rfl) rfl (gi_c (List.mem_of_getElem? (i := 190) rfl) rfl (gi_c (List.mem_of_getElem? (i := 192) rfl) rfl (gi_c (List.mem_of_getElem? (i := 194) rfl) rfl (gi_c (List.mem_of_getElem? (i := 196) rfl) rfl (gi_c (List.mem_of_getElem? (i := 198) rfl) rfl (gi_c (List.mem_of_getElem? (i := 200) rfl) rfl (gi_c (List.mem_of_getElem? (i := 202) rfl) rfl (gi_c (List.mem_of_getElem? (i := 204) rfl) rfl (gi_c (List.mem_of_getElem? (i := 206) rfl) rfl (gi_c (List.mem_of_getElem? (i := 208) rfl) rfl (gi_c (List.mem_of_getElem? (i := 210) rfl) rfl (gi_c (List.mem_of_getElem? (i := 212) rfl) rfl (gi_c (List.mem_of_getElem? (i := 214) rfl) rfl (gi_c (List.mem_of_getElem? (i := 216) rfl) rfl (gi_c (List.mem_of_getElem? (i := 218) rfl) rfl (gi_c (List.mem_of_getElem? (i := 220) rfl) rfl (gi_c (List.mem_of_getElem? (i := 222) rfl) rfl (gi_c (List.mem_of_getElem? (i := 224) rfl) rfl (gi_c (List.mem_of_getElem? (i := 226) rfl) rfl (gi_c (List.mem_of_getElem? (i := 228) rfl) rfl (gi_c (List.mem_of_getElem? (i := 230) rfl) rfl (gi_c (List.mem_of_getElem? (i := 232) rfl) rfl (gi_c (List.mem_of_getElem? (i := 234) rfl) rfl (gi_c (List.mem_of_getElem? (i := 236) rfl) rfl (gi_c (List.mem_of_getElem? (i := 238) rfl) rfl (gi_n)))))))))))))))))))))))))))))))
set_option maxRecDepth 100000 in
theorem pIn_u_5 : GoodIn tables_1_7 (pUu_5.map pWu) := gi_c (List.mem_of_getElem? (i := 0) rfl) rfl (gi_c (List.mem_of_getElem? (i := 2) rfl) rfl (gi_c (List.mem_of_getElem? (i := 4) rfl) rfl (gi_c (List.mem_of_getElem? (i := 6) rfl) rfl (gi_c (List.mem_of_getElem? (i := 8) rfl) rfl (gi_c (List.mem_of_getElem? (i := 10) rfl) rfl (gi_c (List.mem_of_getElem? (i := 12) rfl) rfl (gi_c (List.mem_of_getElem? (i := 14) rfl) rfl (gi_c (List.mem_of_getElem? (i := 16) rfl) rfl (gi_c (List.mem_of_getElem? (i := 18) rfl) rfl (gi_c (List.mem_of_getElem? (i := 20) rfl) rfl (gi_c (List.mem_of_getElem? (i := 22) rfl) rfl (gi_c (List.mem_of_getElem? (i := 24) rfl) rfl (gi_c (List.mem_of_getElem? (i := 26) rfl) rfl (gi_c (List.mem_of_getElem? (i := 28) rfl) rfl (gi_c (List.mem_of_getElem? (i := 30) rfl) rfl (gi_c (List.mem_of_getElem? (i := 32) rfl) rfl (gi_c (List.mem_of_getElem? (i := 34) rfl) rfl (gi_c (List.mem_of_getElem? (i := 36) rfl) rfl (gi_c (List.mem_of_getElem? (i := 38) rfl) rfl (gi_c (List.mem_of_getElem? (i := 40) rfl) rfl (gi_c (List.mem_of_getElem? (i := 42) rfl) rfl (gi_c (List.mem_of_getElem? (i := 44) rfl) rfl (gi_c (List.mem_of_getElem? (i := 46) rfl) rfl (gi_c (List.mem_of_getElem? (i := 48) rfl) rfl (gi_c (List.mem_of_getElem? (i := 50) rfl) rfl (gi_c (List.mem_of_getElem? (i := 52) rfl) rfl (gi_c (List.mem_of_getElem? (i := 54) rfl) rfl (gi_c (List.mem_of_getElem? (i := 56) rfl) rfl (gi_c (List.mem_of_getElem? (i := 58) rfl) rfl (gi_c (List.mem_of_getElem? (i := 60) rfl) rfl (gi_c (List.mem_of_getElem? (i := 62) rfl) rfl (gi_c (List.mem_of_getElem? (i := 64) rfl) rfl (gi_c (List.mem_of_getElem? (i := 66) rfl) rfl (gi_c (List.mem_of_getElem? (i := 68) rfl) rfl (gi_c (List.mem_of_getElem? (i := 70) rfl) rfl (gi_c (List.mem_of_getElem? (i := 72) rfl) rfl (gi_c (List.mem_of_getElem? (i := 74) rfl) rfl (gi_c (List.mem_of_getElem? (i := 76) rfl) rfl (gi_c (List.mem_of_getElem? (i := 78) rfl) rfl (gi_n))))))))))))))))))))))))))))))))))))))))
set_option maxRecDepth 100000 in
theorem pIn_u_6 : GoodIn tables_1_7 (pUu_6.map pWu) := gi_c (List.mem_of_getElem? (i := 80) rfl) rfl (gi_c (List.mem_of_getElem? (i := 82) rfl) rfl (gi_c (List.mem_of_getElem? (i := 84) rfl) rfl (gi_c (List.mem_of_getElem? (i := 86) rfl) rfl (gi_c (List.mem_of_getElem? (i := 88) rfl) rfl (gi_n)))))
theorem pIn_u : GoodIn lw_tbl (pUu.map pWu) := goodIn_ma (goodIn_up pt_1 pIn_u_0) (goodIn_ma (goodIn_up pt_2 pIn_u_1) (goodIn_ma (goodIn_up pt_2 pIn_u_2) (goodIn_ma (goodIn_up pt_3 pIn_u_3) (goodIn_ma (goodIn_up pt_6 pIn_u_4) (goodIn_ma (goodIn_up pt_7 pIn_u_5) (goodIn_up pt_7 pIn_u_6))))))
set_option maxRecDepth 100000 in
theorem pIn_q_0 : GoodIn tables_1_2 (pQs_0.map pWq) := gi_c (List.mem_of_getElem? (i := 13) rfl) rfl (gi_c (List.mem_of_getElem? (i := 29) rfl) rfl (gi_n))
set_option maxRecDepth 100000 in
theorem pIn_q_1 : GoodIn tables_1_9 (pQs_1.map pWq) := gi_c (List.mem_of_getElem? (i := 94) rfl) rfl (gi_c (List.mem_of_getElem? (i := 95) rfl) rfl (gi_n))
theorem pIn_q : GoodIn lw_tbl (pQs.map pWq) := goodIn_ma (goodIn_up pt_2 pIn_q_0) (goodIn_up pt_9 pIn_q_1)
set_option maxRecDepth 100000 in
theorem pIn_x_0 : GoodIn tables_1_1 (pXx_0.map pWx) := gi_c (List.mem_of_getElem? (i := 57) rfl) rfl (gi_c (List.mem_of_getElem? (i := 58) rfl) rfl (gi_n))
set_option maxRecDepth 100000 in
theorem pIn_x_1 : GoodIn tables_1_2 (pXx_1.map pWx) := gi_c (List.mem_of_getElem? (i := 148) rfl) rfl (gi_n)
set_option maxRecDepth 100000 in
theorem pIn_x_2 : GoodIn tables_1_3 (pXx_2.map pWx) := gi_c (List.mem_of_getElem? (i := 4) rfl) rfl (gi_n)
theorem pIn_x : GoodIn lw_tbl (pXx.map pWx) := goodIn_ma (goodIn_up pt_1 pIn_x_0) (goodIn_ma (goodIn_up pt_2 pIn_x_1) (goodIn_up pt_3 pIn_x_2))
end
section
set_option maxRecDepth 100000 in
theorem pIn_m_0 : GoodIn tables_1_1 (pMs_0.map pWm) := gi_c (List.mem_of_getElem? (i := 29) rfl) rfl (gi_c (List.mem_of_getElem? (i := 37) rfl) rfl (gi_c (List.mem_of_getElem? (i := 47) rfl) rfl (gi_c (List.mem_of_getElem? (i := 62) rfl) rfl (gi_c (List.mem_of_getElem? (i := 97) rfl) rfl (gi_c (List.mem_of_getElem? (i := 122) rfl) rfl (gi_c (List.mem_of_getElem? (i := 236) rfl) rfl (gi_n)))))))
set_option maxRecDepth 100000 in
theorem pIn_m_1 : GoodIn tables_1_2 (pMs_1.map pWm) := gi_c (List.mem_of_getElem? (i := 2) rfl) rfl (gi_c (List.mem_of_getElem? (i := 8) rfl) rfl (gi_c (List.mem_of_getElem? (i := 12) rfl) rfl (gi_c (List.mem_of_getElem? (i := 18) rfl) rfl (gi_c (List.mem_of_getElem? (i := 22) rfl) rfl (gi_c (List.mem_of_getElem? (i := 25) rfl) rfl (gi_c (List.mem_of_getElem? (i := 28) rfl) rfl (gi_c (List.mem_of_getElem? (i := 33) rfl) rfl (gi_c (List.mem_of_getElem? (i := 55) rfl) rfl (gi_c (List.mem_of_getElem? (i := 121) rfl) rfl (gi_c (List.mem_of_getElem? (i := 153) rfl) rfl (gi_c (List.mem_of_getElem? (i := 190) rfl) rfl (gi_n))))))))))))
set_option maxRecDepth 100000 in
theorem pIn_m_2 : GoodIn tables_1_2 (pMs_2.map pWm) := gi_c (List.mem_of_getElem? (i := 210) rfl) rfl (gi_n)
set_option maxRecDepth 100000 in
theorem pIn_m_3 : GoodIn tables_1_3 (pMs_3.map pWm) := gi_c (List.mem_of_getElem? (i := 9) rfl) rfl (gi_c (List.mem_of_getElem? (i := 51) rfl) rfl (gi_c (List.mem_of_getElem? (i := 55) rfl) rfl (gi_c (List.mem_of_getElem? (i := 59) rfl) rfl (gi_c (List.mem_of_getElem? (i := 63) rfl) rfl (gi_c (List.mem_of_getElem? (i := 125) rfl) rfl (gi_c (List.mem_of_getElem? (i := 129) rfl) rfl (gi_c (List.mem_of_getElem? (i := 133) rfl) rfl (gi_c (List.mem_of_getElem? (i := 137) rfl) rfl (gi_c (List.mem_of_getElem? (i := 142) rfl) rfl (gi_c (List.mem_of_getElem? (i := 145) rfl) rfl (gi_c (List.mem_of_getElem? (i := 149) rfl) rfl (gi_n))))))))))))
set_option maxRecDepth 100000 in
theorem pIn_m_4 : GoodIn tables_1_3 (pMs_4.map pWm) := gi_c (List.mem_of_getElem? (i := 152) rfl) rfl (gi_c (List.mem_of_getElem? (i := 156) rfl) rfl (gi_c (List.mem_of_getElem? (i := 160) rfl) rfl (gi_c (List.mem_of_getElem? (i := 163) rfl) rfl (gi_c (List.mem_of_getElem? (i := 167) rfl) rfl (gi_c (List.mem_of_getElem? (i := 171) rfl) rfl (gi_c (List.mem_of_getElem? (i := 175) rfl) rfl (gi_c (List.mem_of_getElem? (i := 179) rfl) rfl (gi_c (List.mem_of_getElem? (i := 183) rfl) rfl (gi_c (List.mem_of_getElem? (i := 187) rfl) rfl (gi_c (List.mem_of_getElem? (i := 191) rfl) rfl (gi_c (List.mem_of_getElem? (i := 196) rfl) rfl (gi_n))))))))))))
set_option maxRecDepth 100000 in
theorem pIn_m_5 : GoodIn tables_1_3 (pMs_5.map pWm) := gi_c (List.mem_of_getElem? (i := 200) rfl) rfl (gi_c (List.mem_of_getElem? (i := 204) rfl) rfl (gi_c (List.mem_of_getElem? (i := 208) rfl) rfl (gi_c (List.mem_of_getElem? (i := 212) rfl) rfl (gi_c (List.mem_of_getElem? (i := 216) rfl) rfl (gi_c (List.mem_of_getElem? (i := 220) rfl) rfl (gi_c (List.mem_of_getElem? (i := 224) rfl) rfl (gi_c (List.mem_of_getElem? (i := 228) rfl) rfl (gi_c (List.mem_of_getElem? (i := 232) rfl) rfl (gi_c (List.mem_of_getElem? (i := 236) rfl) rfl (gi_n))))))))))
set_option maxRecDepth 100000 in
theorem pIn_m_6 : GoodIn tables_1_4 (pMs_6.map pWm) := gi_c (List.mem_of_getElem? (i := 0) rfl) rfl (gi_c (List.mem_of_getElem? (i := 4) rfl) rfl (gi_c (List.mem_of_getElem? (i := 8) rfl) rfl (gi_c (List.mem_of_getElem? (i := 12) rfl) rfl (gi_c (List.mem_of_getElem? (i := 16) rfl) rfl (gi_c (List.mem_of_getElem? (i := 20) rfl) rfl (gi_c (List.mem_of_getElem? (i := 25) rfl) rfl (gi_c (List.mem_of_getElem? (i := 29) rfl) rfl (gi_c (List.mem_of_getElem? (i := 33) rfl) rfl (gi_c (List.mem_of_getElem? (i := 37) rfl) rfl (gi_c (List.mem_of_getElem? (i := 41) rfl) rfl (gi_c (List.mem_of_getElem? (i := 45) rfl) rfl (gi_n))))))))))))
set_option maxRecDepth 100000 in
theorem pIn_m_7 : GoodIn tables_1_4 (pMs_7.map pWm) := gi_c (List.mem_of_getElem? (i := 49) rfl) rfl (gi_c (List.mem_of_getElem? (i := 52) rfl) rfl (gi_c (List.mem_of_getElem? (i := 56) rfl) rfl (gi_c (List.mem_of_getElem? (i := 60) rfl) rfl (gi_c (List.mem_of_getElem? (i := 64) rfl) rfl (gi_c (List.mem_of_getElem? (i := 68) rfl) rfl (gi_c (List.mem_of_getElem? (i := 75) rfl) rfl (gi_c (List.mem_of_getElem? (i := 79) rfl) rfl (gi_c (List.mem_of_getElem? (i := 83) rfl) rfl (gi_c (List.mem_of_getElem? (i := 87) rfl) rfl (gi_c (List.mem_of_getElem? (i := 91) rfl) rfl (gi_c (List.mem_of_getElem? (i := 95) rfl) rfl (gi_n))))))))))))
set_option maxRecDepth 100000 in
theorem pIn_m_8 : GoodIn tables_1_4 (pMs_8.map pWm) := gi_c (List.mem_of_getElem? (i := 98) rfl) rfl (gi_c (List.mem_of_getElem? (i := 102) rfl) rfl (gi_c (List.mem_of_getElem? (i := 106) rfl) rfl (gi_c (List.mem_of_getElem? (i := 110) rfl) rfl (gi_c (List.mem_of_getElem? (i := 114) rfl) rfl (gi_c (List.mem_of_getElem? (i := 117) rfl) rfl (gi_c (List.mem_of_getElem? (i := 121) rfl) rfl (gi_c (List.mem_of_getElem? (i := 124) rfl) rfl (gi_c (List.mem_of_getElem? (i := 132) rfl) rfl (gi_c (List.mem_of_getElem? (i := 135) rfl) rfl (gi_c (List.mem_of_getElem? (i := 139) rfl) rfl (gi_c (List.mem_of_getElem? (i := 143) rfl) rfl (gi_n))))))))))))
set_option maxRecDepth 100000 in
theorem pIn_m_9 : GoodIn tables_1_4 (pMs_9.map pWm) := gi_c (List.mem_of_getElem? (i := 148) rfl) rfl (gi_c (List.mem_of_getElem? (i := 153) rfl) rfl (gi_c (List.mem_of_getElem? (i := 157) rfl) rfl (gi_c (List.mem_of_getElem? (i := 161) rfl) rfl (gi_c (List.mem_of_getElem? (i := 166) rfl) rfl (gi_c (List.mem_of_getElem? (i := 173) rfl) rfl (gi_c (List.mem_of_getElem? (i := 177) rfl) rfl (gi_c (List.mem_of_getElem? (i := 181) rfl) rfl (gi_c (List.mem_of_getElem? (i := 188) rfl) rfl (gi_c (List.mem_of_getElem? (i := 192) rfl) rfl (gi_c (List.mem_of_getElem? (i := 196) rfl) rfl (gi_c (List.mem_of_getElem? (i := 200) rfl) rfl (gi_n))))))))))))
set_option maxRecDepth 100000 in
theorem pIn_m_10 : GoodIn tables_1_4 (pMs_10.map pWm) := gi_c (List.mem_of_getElem? (i := 204) rfl) rfl (gi_c (List.mem_of_getElem? (i := 208) rfl) rfl (gi_c (List.mem_of_getElem? (i := 215) rfl) rfl (gi_c (List.mem_of_getElem? (i := 224) rfl) rfl (gi_c (List.mem_of_getElem? (i := 229) rfl) rfl (gi_c (List.mem_of_getElem? (i := 233) rfl) rfl (gi_c (List.mem_of_getElem? (i := 239) rfl) rfl (gi_n)))))))
set_option maxRecDepth 100000 in
theorem pIn_m_11 : GoodIn tables_1_5 (pMs_11.map pWm) := gi_c (List.mem_of_getElem? (i := 3) rfl) rfl (gi_c (List.mem_of_getElem? (i := 7) rfl) rfl (gi_c (List.mem_of_getElem? (i := 10) rfl) rfl (gi_c (List.mem_of_getElem? (i := 14) rfl) rfl (gi_c (List.mem_of_getElem? (i := 18) rfl) rfl (gi_c (List.mem_of_getElem? (i := 22) rfl) rfl (gi_c (List.mem_of_getElem? (i := 27) rfl) rfl (gi_c (List.mem_of_getElem? (i := 34) rfl) rfl (gi_c (List.mem_of_getElem? (i := 39) rfl) rfl (gi_c (List.mem_of_getElem? (i := 45) rfl) rfl (gi_c (List.mem_of_getElem? (i := 49) rfl) rfl (gi_c (List.mem_of_getElem? (i := 53) rfl) rfl (gi_n))))))))))))
set_option maxRecDepth 100000 in
theorem pIn_m_12 : GoodIn tables_1_5 (pMs_12.map pWm) := gi_c (List.mem_of_getElem? (i := 57) rfl) rfl (gi_c (List.mem_of_getElem? (i := 61) rfl) rfl (gi_c (List.mem_of_getElem? (i := 64) rfl) rfl (gi_c (List.mem_of_getElem? (i := 68) rfl) rfl (gi_c (List.mem_of_getElem? (i := 73) rfl) rfl (gi_c (List.mem_of_getElem? (i := 77) rfl) rfl (gi_c (List.mem_of_getElem? (i := 84) rfl) rfl (gi_c (List.mem_of_getElem? (i := 89) rfl) rfl (gi_c (List.mem_of_getElem? (i := 94) rfl) rfl (gi_c (List.mem_of_getElem? (i := 98) rfl) rfl (gi_c (List.mem_of_getElem? (i := 102) rfl) rfl (gi_c (List.mem_of_getElem? (i := 106) rfl) rfl (gi_n))))))))))))
set_option maxRecDepth 100000 in
theorem pIn_m_13 : GoodIn tables_1_5 (pMs_13.map pWm) := gi_c (List.mem_of_getElem? (i := 110) rfl) rfl (gi_c (List.mem_of_getElem? (i := 114) rfl) rfl (gi_c (List.mem_of_getElem? (i := 118) rfl) rfl (gi_c (List.mem_of_getElem? (i := 122) rfl) rfl (gi_c (List.mem_of_getElem? (i := 127) rfl) rfl (gi_c (List.mem_of_getElem? (i := 131) rfl) rfl (gi_c (List.mem_of_getElem? (i := 135) rfl) rfl (gi_c (List.mem_of_getElem? (i := 139) rfl) rfl (gi_c (List.mem_of_getElem? (i := 143) rfl) rfl (gi_c (List.mem_of_getElem? (i := 147) rfl) rfl (gi_c (List.mem_of_getElem? (i := 151) rfl) rfl (gi_c (List.mem_of_getElem? (i := 155) rfl) rfl (gi_n))))))))))))
set_option maxRecDepth 100000 in
theorem pIn_m_14 : GoodIn tables_1_5 (pMs_14.map pWm) := gi_c (List.mem_of_getElem? (i := 159) rfl) rfl (gi_c (List.mem_of_getElem? (i := 163) rfl) rfl (gi_c (List.mem_of_getElem? (i := 167) rfl) rfl (gi_c (List.mem_of_getElem? (i := 171) rfl) rfl (gi_c (List.mem_of_getElem? (i := 175) rfl) rfl (gi_c (List.mem_of_getElem? (i := 179) rfl) rfl (gi_c (List.mem_of_getElem? (i := 185) rfl) rfl (gi_c (List.mem_of_getElem? (i := 189) rfl) rfl (gi_c (List.mem_of_getElem? (i := 193) rfl) rfl (gi_c (List.mem_of_getElem? (i := 197) rfl) rfl (gi_c (List.mem_of_getElem? (i := 201) rfl) rfl (gi_c (List.mem_of_getElem? (i := 205) rfl) rfl (gi_n))))))))))))
set_option maxRecDepth 100000 in
theorem pIn_m_15 : GoodIn tables_1_5 (pMs_15.map pWm) := gi_c (List.mem_of_getElem? (i := 209) rfl) rfl (gi_c (List.mem_of_getElem? (i := 214) rfl) rfl (gi_c (List.mem_of_getElem? (i := 218) rfl) rfl (gi_c (List.mem_of_getElem? (i := 222) rfl) rfl (gi_c (List.mem_of_getElem? (i := 226) rfl) rfl (gi_c (List.mem_of_getElem? (i := 230) rfl) rfl (gi_c (List.mem_of_getElem? (i := 234) rfl) rfl (gi_c (List.mem_of_getElem? (i := 239) rfl) rfl (gi_n))))))))
set_option maxRecDepth 100000 in
theorem pIn_m_16 : GoodIn tables_1_6 (pMs_16.map pWm) := gi_c (List.mem_of_getElem? (i := 8) rfl) rfl (gi_c (List.mem_of_getElem? (i := 96) rfl) rfl (gi_c (List.mem_of_getElem? (i := 101) rfl) rfl (gi_n)))
set_option maxRecDepth 100000 in
theorem pIn_m_17 : GoodIn tables_1_7 (pMs_17.map pWm) := gi_c (List.mem_of_getElem? (i := 94) rfl) rfl (gi_c (List.mem_of_getElem? (i := 98) rfl) rfl (gi_c (List.mem_of_getElem? (i := 102) rfl) rfl (gi_c (List.mem_of_getElem? (i := 106) rfl) rfl (gi_c (List.mem_of_getElem? (i := 110) rfl) rfl (gi_c (List.mem_of_getElem? (i := 113) rfl) rfl (gi_c (List.mem_of_getElem? (i := 117) rfl) rfl (gi_c (List.mem_of_getElem? (i := 124) rfl) rfl (gi_c (List.mem_of_getElem? (i := 127) rfl) rfl (gi_c (List.mem_of_getElem? (i := 132) rfl) rfl (gi_c (List.mem_of_getElem? (i := 136) rfl) rfl (gi_c (List.mem_of_getElem? (i := 140) rfl) rfl (gi_n))))))))))))
set_option maxRecDepth 100000 in
theorem pIn_m_18 : GoodIn tables_1_7 (pMs_18.map pWm) := gi_c (List.mem_of_getElem? (i := 144) rfl) rfl (gi_c (List.mem_of_getElem? (i := 148) rfl) rfl (gi_c (List.mem_of_getElem? (i := 152) rfl) rfl (gi_c (List.mem_of_getElem? (i := 156) rfl) rfl (gi_c (List.mem_of_getElem? (i := 159) rfl) rfl (gi_c (List.mem_of_getElem? (i := 163) rfl) rfl (gi_c (List.mem_of_getElem? (i := 167) rfl) rfl (gi_c (List.mem_of_getElem? (i := 171) rfl) rfl (gi_c (List.mem_of_getElem? (i := 175) rfl) rfl (gi_c (List.mem_of_getElem? (i := 179) rfl) rfl (gi_c (List.mem_of_getElem? (i := 183) rfl) rfl (gi_c (List.mem_of_getElem? (i := 187) rfl) rfl (gi_n))))))))))))
set_option maxRecDepth 100000 in
theorem pIn_m_19 : GoodIn tables_1_7 (pMs_19.map pWm) := gi_c (List.mem_of_getElem? (i := 191) rfl) rfl (gi_c (List.mem_of_getElem? (i := 195) rfl) rfl (gi_c (List.mem_of_getElem? (i := 199) rfl) rfl (gi_c (List.mem_of_getElem? (i := 203) rfl) rfl (gi_c (List.mem_of_getElem? (i := 207) rfl) rfl (gi_c (List.mem_of_getElem? (i := 211) rfl) rfl (gi_c (List.mem_of_getElem? (i := 215) rfl) rfl (gi_c (List.mem_of_getElem? (i := 219) rfl) rfl (gi_c (List.mem_of_getElem? (i := 222) rfl) rfl (gi_c (List.mem_of_getElem? (i := 226) rfl) rfl (gi_c (List.mem_of_getElem? (i := 230) rfl) rfl (gi_c (List.mem_of_getElem? (i := 234) rfl) rfl (gi_n))))))))))))
set_option maxRecDepth 100000 in
theorem pIn_m_20 : GoodIn tables_1_7 (pMs_20.map pWm) := gi_c (List.mem_of_getElem? (i := 238) rfl) rfl (gi_n)
set_option maxRecDepth 100000 in
theorem pIn_m_21 : GoodIn tables_1_8 (pMs_21.map pWm) := gi_c (List.mem_of_getElem? (i := 2) rfl) rfl (gi_c (List.mem_of_getElem? (i := 7) rfl) rfl (gi_c (List.mem_of_getElem? (i := 11) rfl) rfl (gi_c (List.mem_of_getElem? (i := 15) rfl) rfl (gi_c (List.mem_of_getElem? (i := 19) rfl) rfl (gi_c (List.mem_of_getElem? (i := 23) rfl) rfl (gi_c (List.mem_of_getElem? (i := 26) rfl) rfl (gi_c (List.mem_of_getElem? (i := 30) rfl) rfl (gi_c (List.mem_of_getElem? (i := 34) rfl) rfl (gi_c (List.mem_of_getElem? (i := 40) rfl) rfl (gi_c (List.mem_of_getElem? (i := 44) rfl) rfl (gi_c (List.mem_of_getElem? (i := 48) rfl) rfl (gi_n))))))))))))
set_option maxRecDepth 100000 in
theorem pIn_m_22 : GoodIn tables_1_8 (pMs_22.map pWm) := gi_c (List.mem_of_getElem? (i := 52) rfl) rfl (gi_c (List.mem_of_getElem? (i := 55) rfl) rfl (gi_c (List.mem_of_getElem? (i := 58) rfl) rfl (gi_c (List.mem_of_getElem? (i := 66) rfl) rfl (gi_c (List.mem_of_getElem? (i := 70) rfl) rfl (gi_c (List.mem_of_getElem? (i := 74) rfl) rfl (gi_c (List.mem_of_getElem? (i := 78) rfl) rfl (gi_c (List.mem_of_getElem? (i := 83) rfl) rfl (gi_c (List.mem_of_getElem? (i := 87) rfl) rfl (gi_c (List.mem_of_getElem? (i := 91) rfl) rfl (gi_c (List.mem_of_getElem? (i := 96) rfl) rfl (gi_c (List.mem_of_getElem? (i := 100) rfl) rfl (gi_n))))))))))))
set_option maxRecDepth 100000 in
theorem pIn_m_23 : GoodIn tables_1_8 (pMs_23.map pWm) := gi_c (List.mem_of_getElem? (i := 104) rfl) rfl (gi_c (List.mem_of_getElem? (i := 108) rfl) rfl (gi_c (List.mem_of_getElem? (i := 112) rfl) rfl (gi_c (List.mem_of_getElem? (i := 116) rfl) rfl (gi_c (List.mem_of_getElem? (i := 120) rfl) rfl (gi_c (List.mem_of_getElem? (i := 124) rfl) rfl (gi_c (List.mem_of_getElem? (i := 128) rfl) rfl (gi_c (List.mem_of_getElem? (i := 132) rfl) rfl (gi_c (List.mem_of_getElem? (i := 136) rfl) rfl (gi_c (List.mem_of_getElem? (i := 142) rfl) rfl (gi_c (List.mem_of_getElem? (i := 146) rfl) rfl (gi_c (List.mem_of_getElem? (i := 150) rfl) rfl (gi_n))))))))))))
set_option maxRecDepth 100000 in
theorem pIn_m_24 : GoodIn tables_1_8 (pMs_24.map pWm) := gi_c (List.mem_of_getElem? (i := 154) rfl) rfl (gi_c (List.mem_of_getElem? (i := 158) rfl) rfl (gi_c (List.mem_of_getElem? (i := 162) rfl) rfl (gi_c (List.mem_of_getElem? (i := 166) rfl) rfl (gi_c (List.mem_of_getElem? (i := 170) rfl) rfl (gi_c (List.mem_of_getElem? (i := 174) rfl) rfl (gi_c (List.mem_of_getElem? (i := 178) rfl) rfl (gi_c (List.mem_of_getElem? (i := 182) rfl) rfl (gi_c (List.mem_of_getElem? (i := 186) rfl) rfl (gi_c (List.mem_of_getElem? (i := 190) rfl) rfl (gi_c (List.mem_of_getElem? (i := 194) rfl) rfl (gi_c (List.mem_of_getElem? (i := 198) rfl) rfl (gi_n))))))))))))
set_option maxRecDepth 100000 in
theorem pIn_m_25 : GoodIn tables_1_8 (pMs_25.map pWm) := gi_c (List.mem_of_getElem? (i := 202) rfl) rfl (gi_c (List.mem_of_getElem? (i := 206) rfl) rfl (gi_c (List.mem_of_getElem? (i := 210) rfl) rfl (gi_c (List.mem_of_getElem? (i := 214) rfl) rfl (gi_c (List.mem_of_getElem? (i := 218) rfl) rfl (gi_c (List.mem_of_getElem? (i := 223) rfl) rfl (gi_c (List.mem_of_getElem? (i := 227) rfl) rfl (gi_c (List.mem_of_getElem? (i := 231) rfl) rfl (gi_c (List.mem_of_getElem? (i := 235) rfl) rfl (gi_c (List.mem_of_getElem? (i := 239) rfl) rfl (gi_n))))))))))
set_option maxRecDepth 100000 in
theorem pIn_m_26 : GoodIn tables_1_9 (pMs_26.map pWm) := gi_c (List.mem_of_getElem? (i := 3) rfl) rfl (gi_c (List.mem_of_getElem? (i := 7) rfl) rfl (gi_c (List.mem_of_getElem? (i := 11) rfl) rfl (gi_c (List.mem_of_getElem? (i := 15) rfl) rfl (gi_c (List.mem_of_getElem? (i := 19) rfl) rfl (gi_c (List.mem_of_getElem? (i := 23) rfl) rfl (gi_c (List.mem_of_getElem? (i := 27) rfl) rfl (gi_c (List.mem_of_getElem? (i := 31) rfl) rfl (gi_c (List.mem_of_getElem? (i := 35) rfl) rfl (gi_c (List.mem_of_getElem? (i := 39) rfl) rfl (gi_c (List.mem_of_getElem? (i := 43) rfl) rfl (gi_c (List.mem_of_getElem? (i := 47) rfl) rfl (gi_n))))))))))))
set_option maxRecDepth 100000 in
theorem pIn_m_27 : GoodIn tables_1_9 (pMs_27.map pWm) := gi_c (List.mem_of_getElem? (i := 51) rfl) rfl (gi_c (List.mem_of_getElem? (i := 55) rfl) rfl (gi_c (List.mem_of_getElem? (i := 59) rfl) rfl (gi_c (List.mem_of_getElem? (i := 63) rfl) rfl (gi_c (List.mem_of_getElem? (i := 67) rfl) rfl (gi_c (List.mem_of_getElem? (i := 71) rfl) rfl (gi_c (List.mem_of_getElem? (i := 75) rfl) rfl (gi_n)))))))
theorem pIn_m : GoodIn lw_tbl (pMs.map pWm) := goodIn_ma (goodIn_up pt_1 pIn_m_0) (goodIn_ma (goodIn_up pt_2 pIn_m_1) (goodIn_ma (goodIn_up pt_2 pIn_m_2) (goodIn_ma (goodIn_up pt_3 pIn_m_3) (goodIn_ma (goodIn_up pt_3 pIn_m_4) (goodIn_ma (goodIn_up pt_3 pIn_m_5) (goodIn_ma (goodIn_up pt_4 pIn_m_6) (goodIn_ma (goodIn_up pt_4 pIn_m_7) (goodIn_ma (goodIn_up pt_4 pIn_m_8) (goodIn_ma (goodIn_up pt_4 pIn_m_9) (goodIn_ma (goodIn_up pt_4 pIn_m_10) (goodIn_ma (goodIn_up pt_5 pIn_m_11) (goodIn_ma (goodIn_up pt_5 pIn_m_12) (goodIn_ma (goodIn_up pt_5 pIn_m_13) (goodIn_ma (goodIn_up pt_5 pIn_m_14) (goodIn_ma (goodIn_up pt_5 pIn_m_15) (goodIn_ma (goodIn_up pt_6 pIn_m_16) (goodIn_ma (goodIn_up pt_7 pIn_m_17) (goodIn_ma (goodIn_up pt_7 pIn_m_18) (goodIn_ma (goodIn_up pt_7 pIn_m_19) (goodIn_ma (goodIn_up pt_7 pIn_m_20) (goodIn_ma (goodIn_up pt_8 pIn_m_21) (goodIn_ma (goodIn_up pt_8 pIn_m_22) (goodIn_ma (goodIn_up pt_8 pIn_m_23) (goodIn_ma (goodIn_up pt_8 pIn_m_24) (goodIn_ma (goodIn_up pt_8 pIn_m_25) (goodIn_ma (goodIn_up pt_9 pIn_m_26) (goodIn_up pt_9 pIn_m_27)))))))))))))))))))))))))))
end
section
/-! THE CODE OF EACH METHOD, instruction by instruction: place, instruction, length, what it links to. -/
def pAux (c : Nat) (i : Instr) (a : Nat) : Bool := match i with
  | .getfield x => if 9000 ≤ a then pQs.contains (c, x, a) else pFs.contains (c, x, a)
  | .getstatic x => pQs.contains (c, x, a)
  | .putfield x => pFs.contains (c, x, a)
  | .invokevirtual x => a / 1000 == 0 && pCs.contains (c, x, a) && pJs.contains (a % 1000) && pSs.contains (a % 1000)
  | .invokestatic x => (a / 1000 == 1 && pCs.contains (c, x, a) && pTt.contains (a % 1000)) || (a == 5000 && pCs.contains (c, x, a))
  | .invokespecial x => (a / 1000 == 2 && pCs.contains (c, x, a) && pJs.contains (a % 1000)) || (a / 1000 == 3 && pC3.contains (c, x, a) && pJs.contains (a % 1000)) || (a == 4000 && pCs.contains (c, x, a))
  | .ldc x => (a == 900 && ((c == 10 && x == 19) || (c == 12 && x == 187))) || (pKs[a]?).any (fun q => q.1 == c && q.2.1 == x)
  | .ldc_w x => (pKs[a]?).any (fun q => q.1 == c && q.2.1 == x)
  | .ldc2_w x => (pK2[a]?).any (fun q => q.1 == c && q.2.1 == x)
  | .new x => pNs.contains (c, x, a)
  | .anewarray x => pAn.contains (c, x, a)
  | _ => true
def pOkE (c : Nat) (cc : ByteArray) (e : pEn) : Bool := e.2.2.2 == 999999 || (decide (decode cc e.1 = .ok (e.2.1, e.2.2.1)) && pAux c e.2.1 e.2.2.2)
def pT_0 : List pEn := [(0, .aload_n 0, 1, 0), (1, .invokespecial 5, 3, 4000), (4, .aload_n 0, 1, 0), (5, .sipush 700, 3, 0), (8, .newarray .byte, 2, 0), (10, .putfield 11, 3, 1100), (13, .aload_n 0, 1, 0), (14, .iconst (-1), 1, 0),
  (15, .putfield 15, 3, 1103), (18, .aload_n 0, 1, 0), (19, .new 19, 3, 8), (22, .dup, 1, 0), (23, .invokespecial 21, 3, 2001), (26, .putfield 22, 3, 1105), (29, .aload_n 0, 1, 0), (30, .new 19, 3, 8),
  (33, .dup, 1, 0), (34, .invokespecial 21, 3, 2001), (37, .putfield 26, 3, 1106), (40, .aload_n 0, 1, 0), (41, .new 29, 3, 7), (44, .dup, 1, 0), (45, .aload_n 0, 1, 0), (46, .getfield 11, 3, 1100),
  (49, .aload_n 0, 1, 0), (50, .getfield 26, 3, 1106), (53, .invokespecial 31, 3, 2006), (56, .putfield 34, 3, 1104), (59, .aload_n 0, 1, 0), (60, .new 38, 3, 3), (63, .dup, 1, 0), (64, .aload_n 0, 1, 0),
  (65, .getfield 22, 3, 1105), (68, .invokespecial 40, 3, 2016), (71, .putfield 43, 3, 1107), (74, .aload_n 0, 1, 0), (75, .new 38, 3, 3), (78, .dup, 1, 0), (79, .aload_n 0, 1, 0), (80, .getfield 22, 3, 1105),
  (83, .invokespecial 40, 3, 2016), (86, .putfield 47, 3, 1108), (89, .aload_n 0, 1, 0), (90, .new 50, 3, 6), (93, .dup, 1, 0), (94, .aload_n 0, 1, 0), (95, .getfield 22, 3, 1105), (98, .invokespecial 52, 3, 2017),
  (101, .putfield 53, 3, 1109), (104, .aload_n 0, 1, 0), (105, .new 57, 3, 0), (108, .dup, 1, 0), (109, .invokespecial 59, 3, 3018), (112, .putfield 60, 3, 1110), (115, .aload_n 0, 1, 0), (116, .new 64, 3, 9),
  (119, .dup, 1, 0), (120, .invokespecial 66, 3, 3019), (123, .putfield 67, 3, 1111), (126, .aload_n 0, 1, 0), (127, .new 71, 3, 2), (130, .dup, 1, 0), (131, .invokespecial 73, 3, 3020), (134, .putfield 74, 3, 1112),
  (137, .aload_n 0, 1, 0), (138, .new 71, 3, 2), (141, .dup, 1, 0), (142, .invokespecial 73, 3, 3020), (145, .putfield 78, 3, 1113), (148, .aload_n 0, 1, 0), (149, .new 71, 3, 2), (152, .dup, 1, 0),
  (153, .invokespecial 73, 3, 3020), (156, .putfield 81, 3, 1114), (159, .aload_n 0, 1, 0), (160, .bipush 100, 2, 0), (162, .newarray .int, 2, 0), (164, .putfield 84, 3, 1117), (167, .aload_n 0, 1, 0), (168, .invokevirtual 88, 3, 21),
  (171, .return_, 1, 0)]
def pT_1 : List pEn := [(0, .aload_n 0, 1, 0), (1, .invokespecial 3, 3, 4000), (4, .aload_n 0, 1, 0), (5, .bipush 9, 2, 0), (7, .anewarray 9, 3, 24), (10, .putfield 11, 3, 800), (13, .aload_n 0, 1, 0), (14, .bipush 6, 2, 0),
  (16, .anewarray 17, 3, 25), (19, .putfield 19, 3, 801), (22, .aload_n 0, 1, 0), (23, .iconst 3, 1, 0), (24, .newarray .int, 2, 0), (26, .putfield 23, 3, 802), (29, .aload_n 0, 1, 0), (30, .iconst 3, 1, 0),
  (31, .newarray .int, 2, 0), (33, .putfield 27, 3, 803), (36, .aload_n 0, 1, 0), (37, .iconst 3, 1, 0), (38, .newarray .int, 2, 0), (40, .putfield 30, 3, 804), (43, .aload_n 0, 1, 0), (44, .bipush 24, 2, 0),
  (46, .newarray .int, 2, 0), (48, .putfield 33, 3, 805), (51, .aload_n 0, 1, 0), (52, .new 36, 3, 5), (55, .dup, 1, 0), (56, .invokespecial 38, 3, 3002), (59, .putfield 39, 3, 806), (62, .aload_n 0, 1, 0),
  (63, .new 36, 3, 5), (66, .dup, 1, 0), (67, .invokespecial 38, 3, 3002), (70, .putfield 43, 3, 807), (73, .iconst 0, 1, 0), (74, .istore_n 1, 1, 0), (75, .iload_n 1, 1, 0), (76, .bipush 9, 2, 0),
  (78, .if_icmp .ge 22, 3, 0), (81, .aload_n 0, 1, 0), (82, .getfield 11, 3, 800), (85, .iload_n 1, 1, 0), (86, .new 9, 3, 1), (89, .dup, 1, 0), (90, .invokespecial 46, 3, 3003), (93, .aastore, 1, 0),
  (94, .iinc 1 1, 3, 0), (97, .goto (-22), 3, 0), (100, .iconst 0, 1, 0), (101, .istore_n 1, 1, 0), (102, .iload_n 1, 1, 0), (103, .bipush 6, 2, 0), (105, .if_icmp .ge 22, 3, 0), (108, .aload_n 0, 1, 0),
  (109, .getfield 19, 3, 801), (112, .iload_n 1, 1, 0), (113, .new 17, 3, 4), (116, .dup, 1, 0), (117, .invokespecial 47, 3, 3004), (120, .aastore, 1, 0), (121, .iinc 1 1, 3, 0), (124, .goto (-22), 3, 0),
  (127, .aload_n 0, 1, 0), (128, .invokevirtual 48, 3, 5), (131, .return_, 1, 0)]
def pT_2 : List pEn := [(0, .aload_n 0, 1, 0), (1, .invokespecial 3, 3, 4000), (4, .aload_n 0, 1, 0), (5, .bipush 64, 2, 0), (7, .newarray .int, 2, 0), (9, .putfield 9, 3, 500), (12, .return_, 1, 0)]
def pT_3 : List pEn := [(0, .aload_n 0, 1, 0), (1, .invokespecial 1, 3, 4000), (4, .return_, 1, 0)]
def pT_4 : List pEn := [(0, .aload_n 0, 1, 0), (1, .invokespecial 1, 3, 4000), (4, .return_, 1, 0)]
def pT_5 : List pEn := [(0, .aload_n 0, 1, 0), (1, .iconst 0, 1, 0), (2, .putfield 51, 3, 808), (5, .aload_n 0, 1, 0), (6, .iconst 0, 1, 0), (7, .putfield 55, 3, 809), (10, .aload_n 0, 1, 0), (11, .iconst 0, 1, 0),
  (12, .putfield 58, 3, 810), (15, .iconst 0, 1, 0), (16, .istore_n 1, 1, 0), (17, .iload_n 1, 1, 0), (18, .bipush 24, 2, 0), (20, .if_icmp .ge 16, 3, 0), (23, .aload_n 0, 1, 0), (24, .getfield 33, 3, 805),
  (27, .iload_n 1, 1, 0), (28, .iconst 5, 1, 0), (29, .iastore, 1, 0), (30, .iinc 1 1, 3, 0), (33, .goto (-16), 3, 0), (36, .aload_n 0, 1, 0), (37, .getfield 39, 3, 806), (40, .iconst 0, 1, 0),
  (41, .putfield 61, 3, 501), (44, .aload_n 0, 1, 0), (45, .getfield 43, 3, 807), (48, .iconst 0, 1, 0), (49, .putfield 61, 3, 501), (52, .aload_n 0, 1, 0), (53, .bipush 40, 2, 0), (55, .putfield 64, 3, 811),
  (58, .aload_n 0, 1, 0), (59, .bipush 10, 2, 0), (61, .putfield 67, 3, 812), (64, .aload_n 0, 1, 0), (65, .bipush 10, 2, 0), (67, .putfield 70, 3, 813), (70, .aload_n 0, 1, 0), (71, .iconst 5, 1, 0),
  (72, .putfield 73, 3, 814), (75, .aload_n 0, 1, 0), (76, .iconst 0, 1, 0), (77, .putfield 76, 3, 815), (80, .aload_n 0, 1, 0), (81, .iconst 0, 1, 0), (82, .putfield 79, 3, 816), (85, .aload_n 0, 1, 0),
  (86, .iconst 0, 1, 0), (87, .putfield 82, 3, 817), (90, .return_, 1, 0)]
def pT_6 : List pEn := [(0, .aload_n 0, 1, 0), (1, .invokespecial 3, 3, 4000), (4, .aload_n 0, 1, 0), (5, .bipush 72, 2, 0), (7, .newarray .int, 2, 0), (9, .putfield 9, 3, 701), (12, .aload_n 0, 1, 0), (13, .new 15, 3, 10),
  (16, .dup, 1, 0), (17, .aload_n 1, 1, 0), (18, .invokespecial 17, 3, 2007), (21, .putfield 20, 3, 700), (24, .aload_n 0, 1, 0), (25, .aload_n 2, 1, 0), (26, .putfield 24, 3, 704), (29, .return_, 1, 0)]
def pT_7 : List pEn := [(0, .aload_n 0, 1, 0), (1, .invokespecial 3, 3, 4000), (4, .aload_n 0, 1, 0), (5, .bipush 24, 2, 0), (7, .newarray .int, 2, 0), (9, .putfield 9, 3, 1001), (12, .aload_n 0, 1, 0), (13, .aload_n 1, 1, 0),
  (14, .putfield 15, 3, 1000), (17, .iconst 0, 1, 0), (18, .istore_n 2, 1, 0), (19, .iconst 0, 1, 0), (20, .istore_n 3, 1, 0), (21, .iconst 0, 1, 0), (22, .istore 4, 2, 0), (24, .iload 4, 2, 0),
  (26, .ldc 19, 2, 900), (28, .invokevirtual 21, 3, 8), (31, .if_icmp .ge 47, 3, 0), (34, .iload_n 2, 1, 0), (35, .bipush 24, 2, 0), (37, .if_icmp .ge 41, 3, 0), (40, .ldc 19, 2, 900), (42, .iload 4, 2, 0),
  (44, .invokevirtual 27, 3, 10), (47, .bipush 32, 2, 0), (49, .if_icmp .ne 23, 3, 0), (52, .aload_n 0, 1, 0), (53, .getfield 9, 3, 1001), (56, .iload_n 2, 1, 0), (57, .iload_n 3, 1, 0), (58, .iload 4, 2, 0),
  (60, .invokestatic 31, 3, 1015), (63, .iastore, 1, 0), (64, .iinc 2 1, 3, 0), (67, .iload 4, 2, 0), (69, .iconst 1, 1, 0), (70, .iadd, 1, 0), (71, .istore_n 3, 1, 0), (72, .iinc 4 1, 3, 0),
  (75, .goto (-51), 3, 0), (78, .return_, 1, 0)]
def pT_8 : List pEn := [(0, .aload_n 0, 1, 0), (1, .getfield 9, 3, 9000), (4, .arraylength, 1, 0), (5, .aload_n 0, 1, 0), (6, .invokevirtual 335, 3, 9), (9, .ishr, 1, 0), (10, .ireturn, 1, 0)]
def pT_9 : List pEn := [(0, .getstatic 38, 3, 9100), (3, .ifCond .eq 10, 3, 0), (6, .aload_n 0, 1, 0), (7, .getfield 15, 3, 9001), (10, .goto 4, 3, 0), (13, .iconst 1, 1, 0), (14, .ireturn, 1, 0)]
def pT_10 : List pEn := [(0, .aload_n 0, 1, 0), (1, .invokevirtual 492, 3, 11), (4, .ifCond .eq 12, 3, 0), (7, .aload_n 0, 1, 0), (8, .getfield 9, 3, 9000), (11, .iload_n 1, 1, 0), (12, .invokestatic 495, 3, 1012), (15, .ireturn, 1, 0),
  (16, .aload_n 0, 1, 0), (17, .getfield 9, 3, 9000), (20, .iload_n 1, 1, 0), (21, .invokestatic 498, 3, 999999), (24, .ireturn, 1, 0)]
def pT_11 : List pEn := [(0, .getstatic 38, 3, 9100), (3, .ifCond .eq 14, 3, 0), (6, .aload_n 0, 1, 0), (7, .getfield 15, 3, 9001), (10, .ifCond .ne 7, 3, 0), (13, .iconst 1, 1, 0), (14, .goto 4, 3, 0), (17, .iconst 0, 1, 0),
  (18, .ireturn, 1, 0)]
def pT_12 : List pEn := [(0, .iload_n 1, 1, 0), (1, .aload_n 0, 1, 0), (2, .arraylength, 1, 0), (3, .invokestatic 9, 3, 1013), (6, .aload_n 0, 1, 0), (7, .iload_n 1, 1, 0), (8, .baload, 1, 0), (9, .sipush 255, 3, 0),
  (12, .iand, 1, 0), (13, .i2c, 1, 0), (14, .ireturn, 1, 0)]
def pT_13 : List pEn := [(0, .iload_n 0, 1, 0), (1, .iload_n 1, 1, 0), (2, .getstatic 1053, 3, 9101), (5, .invokestatic 1059, 3, 1014), (8, .pop, 1, 0), (9, .return_, 1, 0)]
def pT_14 : List pEn := [(0, .iload_n 0, 1, 0), (1, .ifCond .lt 8, 3, 0), (4, .iload_n 0, 1, 0), (5, .iload_n 1, 1, 0), (6, .if_icmp .lt 10, 3, 0), (9, .aload_n 2, 1, 0), (10, .iload_n 0, 1, 0), (11, .iload_n 1, 1, 0),
  (12, .invokestatic 95, 3, 999999), (15, .athrow, 1, 0), (16, .iload_n 0, 1, 0), (17, .ireturn, 1, 0)]
def pT_15 : List pEn := [(0, .iconst 0, 1, 0), (1, .istore_n 2, 1, 0), (2, .iconst 0, 1, 0), (3, .istore_n 3, 1, 0), (4, .iload_n 3, 1, 0), (5, .bipush 6, 2, 0), (7, .if_icmp .ge 53, 3, 0), (10, .iload_n 0, 1, 0),
  (11, .iload_n 3, 1, 0), (12, .iadd, 1, 0), (13, .iload_n 1, 1, 0), (14, .if_icmp .ge 30, 3, 0), (17, .iload_n 0, 1, 0), (18, .iload_n 3, 1, 0), (19, .iadd, 1, 0), (20, .ldc 19, 2, 900),
  (22, .invokevirtual 21, 3, 8), (25, .if_icmp .ge 19, 3, 0), (28, .ldc 19, 2, 900), (30, .iload_n 0, 1, 0), (31, .iload_n 3, 1, 0), (32, .iadd, 1, 0), (33, .invokevirtual 27, 3, 10), (36, .bipush 97, 2, 0),
  (38, .isub, 1, 0), (39, .iconst 1, 1, 0), (40, .iadd, 1, 0), (41, .goto 4, 3, 0), (44, .iconst 0, 1, 0), (45, .istore 4, 2, 0), (47, .iload_n 2, 1, 0), (48, .iconst 5, 1, 0),
  (49, .ishl, 1, 0), (50, .iload 4, 2, 0), (52, .ior, 1, 0), (53, .istore_n 2, 1, 0), (54, .iinc 3 1, 3, 0), (57, .goto (-53), 3, 0), (60, .iload_n 2, 1, 0), (61, .ireturn, 1, 0)]
def pT_16 : List pEn := [(0, .aload_n 0, 1, 0), (1, .invokespecial 3, 3, 4000), (4, .aload_n 0, 1, 0), (5, .sipush 648, 3, 0), (8, .newarray .int, 2, 0), (10, .putfield 9, 3, 300), (13, .aload_n 0, 1, 0), (14, .sipush 216, 3, 0),
  (17, .newarray .int, 2, 0), (19, .putfield 15, 3, 301), (22, .aload_n 0, 1, 0), (23, .bipush 6, 2, 0), (25, .newarray .long, 2, 0), (27, .putfield 18, 3, 302), (30, .aload_n 0, 1, 0), (31, .bipush 64, 2, 0),
  (33, .newarray .long, 2, 0), (35, .putfield 22, 3, 303), (38, .aload_n 0, 1, 0), (39, .aload_n 1, 1, 0), (40, .putfield 25, 3, 304), (43, .return_, 1, 0)]
def pT_17 : List pEn := [(0, .aload_n 0, 1, 0), (1, .invokespecial 3, 3, 4000), (4, .aload_n 0, 1, 0), (5, .bipush 64, 2, 0), (7, .newarray .int, 2, 0), (9, .putfield 9, 3, 600), (12, .aload_n 0, 1, 0), (13, .bipush 64, 2, 0),
  (15, .newarray .int, 2, 0), (17, .putfield 15, 3, 601), (20, .aload_n 0, 1, 0), (21, .bipush 64, 2, 0), (23, .newarray .int, 2, 0), (25, .putfield 18, 3, 602), (28, .aload_n 0, 1, 0), (29, .aload_n 1, 1, 0),
  (30, .putfield 21, 3, 603), (33, .return_, 1, 0)]
def pT_18 : List pEn := [(0, .aload_n 0, 1, 0), (1, .invokespecial 3, 3, 4000), (4, .aload_n 0, 1, 0), (5, .bipush 90, 2, 0), (7, .newarray .int, 2, 0), (9, .putfield 11, 3, 0), (12, .aload_n 0, 1, 0), (13, .bipush 9, 2, 0),
  (15, .newarray .int, 2, 0), (17, .putfield 15, 3, 1), (20, .aload_n 0, 1, 0), (21, .bipush 9, 2, 0), (23, .newarray .int, 2, 0), (25, .putfield 18, 3, 2), (28, .aload_n 0, 1, 0), (29, .bipush 9, 2, 0),
  (31, .newarray .int, 2, 0), (33, .putfield 21, 3, 3), (36, .return_, 1, 0)]
def pT_19 : List pEn := [(0, .aload_n 0, 1, 0), (1, .invokespecial 3, 3, 4000), (4, .aload_n 0, 1, 0), (5, .bipush 24, 2, 0), (7, .newarray .int, 2, 0), (9, .putfield 9, 3, 900), (12, .aload_n 0, 1, 0), (13, .bipush 24, 2, 0),
  (15, .newarray .int, 2, 0), (17, .putfield 15, 3, 901), (20, .aload_n 0, 1, 0), (21, .bipush 24, 2, 0), (23, .newarray .int, 2, 0), (25, .putfield 18, 3, 902), (28, .aload_n 0, 1, 0), (29, .bipush 24, 2, 0),
  (31, .newarray .int, 2, 0), (33, .putfield 21, 3, 903), (36, .aload_n 0, 1, 0), (37, .bipush 24, 2, 0), (39, .newarray .boolean, 2, 0), (41, .putfield 24, 3, 904), (44, .aload_n 0, 1, 0), (45, .bipush 24, 2, 0),
  (47, .newarray .int, 2, 0), (49, .putfield 28, 3, 905), (52, .return_, 1, 0)]
def pT_20 : List pEn := [(0, .aload_n 0, 1, 0), (1, .invokespecial 3, 3, 4000), (4, .aload_n 0, 1, 0), (5, .bipush 9, 2, 0), (7, .newarray .int, 2, 0), (9, .putfield 9, 3, 200), (12, .return_, 1, 0)]
def pT_21 : List pEn := [(0, .aload_n 0, 1, 0), (1, .getfield 43, 3, 1107), (4, .aload_n 0, 1, 0), (5, .getfield 22, 3, 1105), (8, .iconst 0, 1, 0), (9, .iconst 0, 1, 0), (10, .iconst 1, 1, 0), (11, .invokevirtual 91, 3, 22),
  (14, .aload_n 0, 1, 0), (15, .getfield 74, 3, 1112), (18, .aload_n 0, 1, 0), (19, .getfield 22, 3, 1105), (22, .invokevirtual 95, 3, 23), (25, .aload_n 0, 1, 0), (26, .getfield 67, 3, 1111), (29, .invokevirtual 98, 3, 24),
  (32, .aload_n 0, 1, 0), (33, .iconst 0, 1, 0), (34, .putfield 101, 3, 1115), (37, .aload_n 0, 1, 0), (38, .iconst 0, 1, 0), (39, .putfield 105, 3, 1118), (42, .return_, 1, 0)]
def pT_22 : List pEn := [(0, .aload_n 0, 1, 0), (1, .aload_n 1, 1, 0), (2, .putfield 25, 3, 304), (5, .aload_n 0, 1, 0), (6, .iload_n 2, 1, 0), (7, .putfield 29, 3, 305), (10, .aload_n 0, 1, 0), (11, .iload_n 3, 1, 0),
  (12, .putfield 33, 3, 306), (15, .aload_n 0, 1, 0), (16, .iload 4, 2, 0), (18, .putfield 36, 3, 307), (21, .iconst 0, 1, 0), (22, .istore 5, 2, 0), (24, .iload 5, 2, 0), (26, .aload_n 0, 1, 0),
  (27, .getfield 9, 3, 300), (30, .arraylength, 1, 0), (31, .if_icmp .ge 17, 3, 0), (34, .aload_n 0, 1, 0), (35, .getfield 9, 3, 300), (38, .iload 5, 2, 0), (40, .iconst (-1), 1, 0), (41, .iastore, 1, 0),
  (42, .iinc 5 1, 3, 0), (45, .goto (-21), 3, 0), (48, .iconst 0, 1, 0), (49, .istore 5, 2, 0), (51, .iload 5, 2, 0), (53, .aload_n 0, 1, 0), (54, .getfield 15, 3, 301), (57, .arraylength, 1, 0),
  (58, .if_icmp .ge 17, 3, 0), (61, .aload_n 0, 1, 0), (62, .getfield 15, 3, 301), (65, .iload 5, 2, 0), (67, .iconst (-1), 1, 0), (68, .iastore, 1, 0), (69, .iinc 5 1, 3, 0), (72, .goto (-21), 3, 0),
  (75, .return_, 1, 0)]
def pT_23 : List pEn := [(0, .aload_n 0, 1, 0), (1, .iconst 0, 1, 0), (2, .putfield 15, 3, 201), (5, .aload_n 0, 1, 0), (6, .iconst 0, 1, 0), (7, .putfield 19, 3, 202), (10, .aload_n 0, 1, 0), (11, .iconst 0, 1, 0),
  (12, .putfield 22, 3, 203), (15, .aload_n 0, 1, 0), (16, .iconst 0, 1, 0), (17, .putfield 25, 3, 204), (20, .aload_n 0, 1, 0), (21, .iconst 0, 1, 0), (22, .putfield 28, 3, 205), (25, .aload_n 0, 1, 0),
  (26, .iconst 0, 1, 0), (27, .putfield 31, 3, 206), (30, .aload_n 0, 1, 0), (31, .aload_n 1, 1, 0), (32, .getfield 34, 3, 815), (35, .i2l, 1, 0), (36, .putfield 39, 3, 207), (39, .iconst 0, 1, 0),
  (40, .istore_n 2, 1, 0), (41, .iload_n 2, 1, 0), (42, .bipush 9, 2, 0), (44, .if_icmp .ge 36, 3, 0), (47, .aload_n 0, 1, 0), (48, .getfield 9, 3, 200), (51, .iload_n 2, 1, 0), (52, .iload_n 2, 1, 0),
  (53, .aload_n 1, 1, 0), (54, .getfield 43, 3, 808), (57, .if_icmp .ge 15, 3, 0), (60, .aload_n 1, 1, 0), (61, .getfield 46, 3, 800), (64, .iload_n 2, 1, 0), (65, .aaload, 1, 0), (66, .getfield 50, 3, 104),
  (69, .goto 4, 3, 0), (72, .iconst 0, 1, 0), (73, .iastore, 1, 0), (74, .iinc 2 1, 3, 0), (77, .goto (-36), 3, 0), (80, .return_, 1, 0)]
def pT_24 : List pEn := [(0, .aload_n 0, 1, 0), (1, .iconst 0, 1, 0), (2, .putfield 31, 3, 906), (5, .aload_n 0, 1, 0), (6, .iconst (-1), 1, 0), (7, .putfield 35, 3, 907), (10, .return_, 1, 0)]
def pT_25 : List pEn := [(0, .aload_n 0, 1, 0), (1, .getfield 108, 3, 1101), (4, .bipush 20, 2, 0), (6, .iadd, 1, 0), (7, .sipush 700, 3, 0), (10, .if_icmp .le 5, 3, 0), (13, .iconst (-1), 1, 0), (14, .ireturn, 1, 0),
  (15, .aload_n 0, 1, 0), (16, .iload_n 1, 1, 0), (17, .invokevirtual 111, 3, 26), (20, .aload_n 0, 1, 0), (21, .iload_n 2, 1, 0), (22, .invokevirtual 111, 3, 26), (25, .aload_n 0, 1, 0), (26, .iload_n 3, 1, 0),
  (27, .invokevirtual 111, 3, 26), (30, .aload_n 0, 1, 0), (31, .iload 4, 2, 0), (33, .invokevirtual 111, 3, 26), (36, .aload_n 0, 1, 0), (37, .iload 5, 2, 0), (39, .invokevirtual 111, 3, 26), (42, .aload_n 0, 1, 0),
  (43, .getfield 108, 3, 1101), (46, .ireturn, 1, 0)]
def pT_26 : List pEn := [(0, .aload_n 0, 1, 0), (1, .getfield 108, 3, 1101), (4, .iconst 4, 1, 0), (5, .iadd, 1, 0), (6, .sipush 700, 3, 0), (9, .if_icmp .le 4, 3, 0), (12, .return_, 1, 0), (13, .aload_n 0, 1, 0),
  (14, .getfield 11, 3, 1100), (17, .aload_n 0, 1, 0), (18, .getfield 108, 3, 1101), (21, .iload_n 1, 1, 0), (22, .bipush 24, 2, 0), (24, .ishr, 1, 0), (25, .i2b, 1, 0), (26, .bastore, 1, 0),
  (27, .aload_n 0, 1, 0), (28, .getfield 11, 3, 1100), (31, .aload_n 0, 1, 0), (32, .getfield 108, 3, 1101), (35, .iconst 1, 1, 0), (36, .iadd, 1, 0), (37, .iload_n 1, 1, 0), (38, .bipush 16, 2, 0),
  (40, .ishr, 1, 0), (41, .i2b, 1, 0), (42, .bastore, 1, 0), (43, .aload_n 0, 1, 0), (44, .getfield 11, 3, 1100), (47, .aload_n 0, 1, 0), (48, .getfield 108, 3, 1101), (51, .iconst 2, 1, 0),
  (52, .iadd, 1, 0), (53, .iload_n 1, 1, 0), (54, .bipush 8, 2, 0), (56, .ishr, 1, 0), (57, .i2b, 1, 0), (58, .bastore, 1, 0), (59, .aload_n 0, 1, 0), (60, .getfield 11, 3, 1100),
  (63, .aload_n 0, 1, 0), (64, .getfield 108, 3, 1101), (67, .iconst 3, 1, 0), (68, .iadd, 1, 0), (69, .iload_n 1, 1, 0), (70, .i2b, 1, 0), (71, .bastore, 1, 0), (72, .aload_n 0, 1, 0),
  (73, .dup, 1, 0), (74, .getfield 108, 3, 1101), (77, .iconst 4, 1, 0), (78, .iadd, 1, 0), (79, .putfield 108, 3, 1101), (82, .return_, 1, 0)]
def pT_27 : List pEn := [(0, .iload_n 1, 1, 0), (1, .ifCond .lt 11, 3, 0), (4, .iload_n 1, 1, 0), (5, .aload_n 0, 1, 0), (6, .getfield 108, 3, 1101), (9, .if_icmp .le 6, 3, 0), (12, .bipush (-2), 2, 0), (14, .ireturn, 1, 0),
  (15, .aload_n 0, 1, 0), (16, .iconst 0, 1, 0), (17, .putfield 108, 3, 1101), (20, .aload_n 0, 1, 0), (21, .getfield 34, 3, 1104), (24, .aload_n 0, 1, 0), (25, .getfield 26, 3, 1106), (28, .iload_n 1, 1, 0),
  (29, .invokevirtual 115, 3, 28), (32, .istore_n 2, 1, 0), (33, .aload_n 0, 1, 0), (34, .aload_n 0, 1, 0), (35, .getfield 34, 3, 1104), (38, .getfield 119, 3, 709), (41, .putfield 122, 3, 1102), (44, .aload_n 0, 1, 0),
  (45, .aload_n 0, 1, 0), (46, .getfield 34, 3, 1104), (49, .getfield 123, 3, 710), (52, .putfield 15, 3, 1103), (55, .iload_n 2, 1, 0), (56, .ifCond .ne 5, 3, 0), (59, .iconst (-1), 1, 0), (60, .ireturn, 1, 0),
  (61, .aload_n 0, 1, 0), (62, .getfield 22, 3, 1105), (65, .astore_n 3, 1, 0), (66, .aload_n 0, 1, 0), (67, .aload_n 0, 1, 0), (68, .getfield 26, 3, 1106), (71, .putfield 22, 3, 1105), (74, .aload_n 0, 1, 0),
  (75, .aload_n 3, 1, 0), (76, .putfield 26, 3, 1106), (79, .aload_n 0, 1, 0), (80, .invokevirtual 88, 3, 21), (83, .aload_n 0, 1, 0), (84, .getfield 22, 3, 1105), (87, .getfield 124, 3, 817), (90, .ireturn, 1, 0)]
def pT_28 : List pEn := [(0, .aload_n 0, 1, 0), (1, .aload_n 1, 1, 0), (2, .putfield 24, 3, 704), (5, .aload_n 0, 1, 0), (6, .getfield 24, 3, 704), (9, .invokevirtual 28, 3, 5), (12, .aload_n 0, 1, 0), (13, .iconst 0, 1, 0),
  (14, .putfield 33, 3, 705), (17, .aload_n 0, 1, 0), (18, .iconst 0, 1, 0), (19, .putfield 37, 3, 706), (22, .aload_n 0, 1, 0), (23, .iconst 0, 1, 0), (24, .putfield 40, 3, 707), (27, .aload_n 0, 1, 0),
  (28, .iconst 0, 1, 0), (29, .putfield 43, 3, 709), (32, .aload_n 0, 1, 0), (33, .iconst (-1), 1, 0), (34, .putfield 46, 3, 710), (37, .aload_n 0, 1, 0), (38, .getfield 20, 3, 700), (41, .iload_n 2, 1, 0),
  (42, .invokevirtual 49, 3, 29), (45, .iconst 0, 1, 0), (46, .istore_n 3, 1, 0), (47, .iload_n 3, 1, 0), (48, .iload_n 2, 1, 0), (49, .if_icmp .gt 66, 3, 0), (52, .aload_n 0, 1, 0), (53, .getfield 20, 3, 700),
  (56, .getfield 53, 3, 1004), (59, .iconst 2, 1, 0), (60, .if_icmp .eq 55, 3, 0), (63, .aload_n 0, 1, 0), (64, .invokevirtual 56, 3, 39), (67, .ifCond .ne 5, 3, 0), (70, .iconst 0, 1, 0), (71, .ireturn, 1, 0),
  (72, .aload_n 0, 1, 0), (73, .getfield 20, 3, 700), (76, .getfield 53, 3, 1004), (79, .iconst 5, 1, 0), (80, .if_icmp .eq 9, 3, 0), (83, .aload_n 0, 1, 0), (84, .iconst 1, 1, 0), (85, .invokevirtual 60, 3, 41),
  (88, .ireturn, 1, 0), (89, .aload_n 0, 1, 0), (90, .getfield 20, 3, 700), (93, .invokevirtual 64, 3, 31), (96, .aload_n 0, 1, 0), (97, .getfield 24, 3, 704), (100, .dup, 1, 0), (101, .getfield 67, 3, 817),
  (104, .iconst 1, 1, 0), (105, .iadd, 1, 0), (106, .putfield 67, 3, 817), (109, .iinc 3 1, 3, 0), (112, .goto (-65), 3, 0), (115, .iconst 1, 1, 0), (116, .ireturn, 1, 0)]
def pT_29 : List pEn := [(0, .aload_n 0, 1, 0), (1, .iload_n 1, 1, 0), (2, .aload_n 0, 1, 0), (3, .getfield 15, 3, 1000), (6, .arraylength, 1, 0), (7, .invokestatic 35, 3, 1030), (10, .putfield 40, 3, 1002), (13, .aload_n 0, 1, 0),
  (14, .iconst 0, 1, 0), (15, .putfield 43, 3, 1003), (18, .aload_n 0, 1, 0), (19, .invokevirtual 46, 3, 31), (22, .return_, 1, 0)]
def pT_30 : List pEn := [(0, .iload_n 0, 1, 0), (1, .iload_n 1, 1, 0), (2, .if_icmp .gt 7, 3, 0), (5, .iload_n 0, 1, 0), (6, .goto 4, 3, 0), (9, .iload_n 1, 1, 0), (10, .ireturn, 1, 0)]
def pT_31 : List pEn := [(0, .aload_n 0, 1, 0), (1, .getfield 43, 3, 1003), (4, .aload_n 0, 1, 0), (5, .getfield 40, 3, 1002), (8, .if_icmp .ge 44, 3, 0), (11, .aload_n 0, 1, 0), (12, .getfield 15, 3, 1000), (15, .aload_n 0, 1, 0),
  (16, .getfield 43, 3, 1003), (19, .baload, 1, 0), (20, .bipush 10, 2, 0), (22, .if_icmp .eq 17, 3, 0), (25, .aload_n 0, 1, 0), (26, .getfield 15, 3, 1000), (29, .aload_n 0, 1, 0), (30, .getfield 43, 3, 1003),
  (33, .baload, 1, 0), (34, .bipush 32, 2, 0), (36, .if_icmp .ne 16, 3, 0), (39, .aload_n 0, 1, 0), (40, .dup, 1, 0), (41, .getfield 43, 3, 1003), (44, .iconst 1, 1, 0), (45, .iadd, 1, 0),
  (46, .putfield 43, 3, 1003), (49, .goto (-49), 3, 0), (52, .aload_n 0, 1, 0), (53, .aload_n 0, 1, 0), (54, .getfield 43, 3, 1003), (57, .putfield 49, 3, 1006), (60, .aload_n 0, 1, 0), (61, .getfield 43, 3, 1003),
  (64, .aload_n 0, 1, 0), (65, .getfield 40, 3, 1002), (68, .if_icmp .lt 11, 3, 0), (71, .aload_n 0, 1, 0), (72, .iconst 2, 1, 0), (73, .putfield 52, 3, 1004), (76, .goto 77, 3, 0), (79, .aload_n 0, 1, 0),
  (80, .getfield 15, 3, 1000), (83, .aload_n 0, 1, 0), (84, .getfield 43, 3, 1003), (87, .baload, 1, 0), (88, .invokestatic 55, 3, 1032), (91, .ifCond .eq 10, 3, 0), (94, .aload_n 0, 1, 0), (95, .invokevirtual 59, 3, 33),
  (98, .goto 55, 3, 0), (101, .aload_n 0, 1, 0), (102, .getfield 15, 3, 1000), (105, .aload_n 0, 1, 0), (106, .getfield 43, 3, 1003), (109, .baload, 1, 0), (110, .invokestatic 62, 3, 1035), (113, .ifCond .eq 10, 3, 0),
  (116, .aload_n 0, 1, 0), (117, .invokevirtual 65, 3, 36), (120, .goto 33, 3, 0), (123, .aload_n 0, 1, 0), (124, .aload_n 0, 1, 0), (125, .getfield 15, 3, 1000), (128, .aload_n 0, 1, 0), (129, .getfield 43, 3, 1003),
  (132, .baload, 1, 0), (133, .invokestatic 68, 3, 1037), (136, .putfield 52, 3, 1004), (139, .aload_n 0, 1, 0), (140, .dup, 1, 0), (141, .getfield 43, 3, 1003), (144, .iconst 1, 1, 0), (145, .iadd, 1, 0),
  (146, .putfield 43, 3, 1003), (149, .aload_n 0, 1, 0), (150, .invokevirtual 72, 3, 38), (153, .return_, 1, 0)]
def pT_32 : List pEn := [(0, .iload_n 0, 1, 0), (1, .bipush 97, 2, 0), (3, .if_icmp .lt 13, 3, 0), (6, .iload_n 0, 1, 0), (7, .bipush 122, 2, 0), (9, .if_icmp .gt 7, 3, 0), (12, .iconst 1, 1, 0), (13, .goto 4, 3, 0),
  (16, .iconst 0, 1, 0), (17, .ireturn, 1, 0)]
def pT_33 : List pEn := [(0, .iconst 0, 1, 0), (1, .istore_n 1, 1, 0), (2, .aload_n 0, 1, 0), (3, .getfield 43, 3, 1003), (6, .aload_n 0, 1, 0), (7, .getfield 40, 3, 1002), (10, .if_icmp .ge 76, 3, 0), (13, .aload_n 0, 1, 0),
  (14, .getfield 15, 3, 1000), (17, .aload_n 0, 1, 0), (18, .getfield 43, 3, 1003), (21, .baload, 1, 0), (22, .invokestatic 55, 3, 1032), (25, .ifCond .eq 61, 3, 0), (28, .aload_n 0, 1, 0), (29, .getfield 43, 3, 1003),
  (32, .aload_n 0, 1, 0), (33, .getfield 49, 3, 1006), (36, .isub, 1, 0), (37, .bipush 6, 2, 0), (39, .if_icmp .ge 34, 3, 0), (42, .iload_n 1, 1, 0), (43, .aload_n 0, 1, 0), (44, .getfield 15, 3, 1000),
  (47, .aload_n 0, 1, 0), (48, .getfield 43, 3, 1003), (51, .baload, 1, 0), (52, .bipush 97, 2, 0), (54, .isub, 1, 0), (55, .iconst 1, 1, 0), (56, .iadd, 1, 0), (57, .iconst 5, 1, 0),
  (58, .iconst 5, 1, 0), (59, .aload_n 0, 1, 0), (60, .getfield 43, 3, 1003), (63, .aload_n 0, 1, 0), (64, .getfield 49, 3, 1006), (67, .isub, 1, 0), (68, .isub, 1, 0), (69, .imul, 1, 0),
  (70, .ishl, 1, 0), (71, .ior, 1, 0), (72, .istore_n 1, 1, 0), (73, .aload_n 0, 1, 0), (74, .dup, 1, 0), (75, .getfield 43, 3, 1003), (78, .iconst 1, 1, 0), (79, .iadd, 1, 0),
  (80, .putfield 43, 3, 1003), (83, .goto (-81), 3, 0), (86, .aload_n 0, 1, 0), (87, .iload_n 1, 1, 0), (88, .putfield 75, 3, 1005), (91, .aload_n 0, 1, 0), (92, .aload_n 0, 1, 0), (93, .getfield 43, 3, 1003),
  (96, .aload_n 0, 1, 0), (97, .getfield 49, 3, 1006), (100, .isub, 1, 0), (101, .bipush 6, 2, 0), (103, .if_icmp .le 7, 3, 0), (106, .iconst 1, 1, 0), (107, .goto 8, 3, 0), (110, .aload_n 0, 1, 0),
  (111, .iload_n 1, 1, 0), (112, .invokevirtual 78, 3, 34), (115, .putfield 52, 3, 1004), (118, .return_, 1, 0)]
def pT_34 : List pEn := [(0, .iconst 0, 1, 0), (1, .istore_n 2, 1, 0), (2, .iload_n 2, 1, 0), (3, .bipush 24, 2, 0), (5, .if_icmp .ge 24, 3, 0), (8, .aload_n 0, 1, 0), (9, .getfield 9, 3, 1001), (12, .iload_n 2, 1, 0),
  (13, .iaload, 1, 0), (14, .iload_n 1, 1, 0), (15, .if_icmp .ne 8, 3, 0), (18, .bipush 18, 2, 0), (20, .iload_n 2, 1, 0), (21, .iadd, 1, 0), (22, .ireturn, 1, 0), (23, .iinc 2 1, 3, 0),
  (26, .goto (-24), 3, 0), (29, .iconst 4, 1, 0), (30, .ireturn, 1, 0)]
def pT_35 : List pEn := [(0, .iload_n 0, 1, 0), (1, .bipush 48, 2, 0), (3, .if_icmp .lt 13, 3, 0), (6, .iload_n 0, 1, 0), (7, .bipush 57, 2, 0), (9, .if_icmp .gt 7, 3, 0), (12, .iconst 1, 1, 0), (13, .goto 4, 3, 0),
  (16, .iconst 0, 1, 0), (17, .ireturn, 1, 0)]
def pT_36 : List pEn := [(0, .iconst 0, 1, 0), (1, .istore_n 1, 1, 0), (2, .aload_n 0, 1, 0), (3, .getfield 43, 3, 1003), (6, .aload_n 0, 1, 0), (7, .getfield 40, 3, 1002), (10, .if_icmp .ge 54, 3, 0), (13, .aload_n 0, 1, 0),
  (14, .getfield 15, 3, 1000), (17, .aload_n 0, 1, 0), (18, .getfield 43, 3, 1003), (21, .baload, 1, 0), (22, .invokestatic 62, 3, 1035), (25, .ifCond .eq 39, 3, 0), (28, .ldc 82, 2, 0), (30, .iload_n 1, 1, 0),
  (31, .bipush 10, 2, 0), (33, .imul, 1, 0), (34, .aload_n 0, 1, 0), (35, .getfield 15, 3, 1000), (38, .aload_n 0, 1, 0), (39, .getfield 43, 3, 1003), (42, .baload, 1, 0), (43, .iadd, 1, 0),
  (44, .bipush 48, 2, 0), (46, .isub, 1, 0), (47, .invokestatic 35, 3, 1030), (50, .istore_n 1, 1, 0), (51, .aload_n 0, 1, 0), (52, .dup, 1, 0), (53, .getfield 43, 3, 1003), (56, .iconst 1, 1, 0),
  (57, .iadd, 1, 0), (58, .putfield 43, 3, 1003), (61, .goto (-59), 3, 0), (64, .aload_n 0, 1, 0), (65, .iload_n 1, 1, 0), (66, .putfield 75, 3, 1005), (69, .aload_n 0, 1, 0), (70, .iconst 3, 1, 0),
  (71, .putfield 52, 3, 1004), (74, .return_, 1, 0)]
def pT_37 : List pEn := [(0, .iload_n 0, 1, 0), (1, .tableswitch 136 40 62 #[109, 112, 121, 115, 136, 118, 136, 124, 136, 136, 136, 136, 136, 136, 136, 136, 136, 136, 136, 107, 127, 130, 133], 107, 0), (108, .iconst 5, 1, 0), (109, .ireturn, 1, 0), (110, .bipush 6, 2, 0), (112, .ireturn, 1, 0), (113, .bipush 7, 2, 0), (115, .ireturn, 1, 0),
  (116, .bipush 8, 2, 0), (118, .ireturn, 1, 0), (119, .bipush 9, 2, 0), (121, .ireturn, 1, 0), (122, .bipush 10, 2, 0), (124, .ireturn, 1, 0), (125, .bipush 11, 2, 0), (127, .ireturn, 1, 0),
  (128, .bipush 12, 2, 0), (130, .ireturn, 1, 0), (131, .bipush 14, 2, 0), (133, .ireturn, 1, 0), (134, .bipush 17, 2, 0), (136, .ireturn, 1, 0), (137, .iconst 1, 1, 0), (138, .ireturn, 1, 0)]
def pT_38 : List pEn := [(0, .aload_n 0, 1, 0), (1, .getfield 43, 3, 1003), (4, .aload_n 0, 1, 0), (5, .getfield 40, 3, 1002), (8, .if_icmp .ge 21, 3, 0), (11, .aload_n 0, 1, 0), (12, .getfield 52, 3, 1004), (15, .bipush 12, 2, 0),
  (17, .if_icmp .eq 13, 3, 0), (20, .aload_n 0, 1, 0), (21, .getfield 52, 3, 1004), (24, .bipush 17, 2, 0), (26, .if_icmp .eq 4, 3, 0), (29, .return_, 1, 0), (30, .aload_n 0, 1, 0), (31, .getfield 15, 3, 1000),
  (34, .aload_n 0, 1, 0), (35, .getfield 43, 3, 1003), (38, .baload, 1, 0), (39, .bipush 61, 2, 0), (41, .if_icmp .ne 36, 3, 0), (44, .aload_n 0, 1, 0), (45, .aload_n 0, 1, 0), (46, .getfield 52, 3, 1004),
  (49, .bipush 12, 2, 0), (51, .if_icmp .ne 8, 3, 0), (54, .bipush 13, 2, 0), (56, .goto 5, 3, 0), (59, .bipush 16, 2, 0), (61, .putfield 52, 3, 1004), (64, .aload_n 0, 1, 0), (65, .dup, 1, 0),
  (66, .getfield 43, 3, 1003), (69, .iconst 1, 1, 0), (70, .iadd, 1, 0), (71, .putfield 43, 3, 1003), (74, .goto 42, 3, 0), (77, .aload_n 0, 1, 0), (78, .getfield 15, 3, 1000), (81, .aload_n 0, 1, 0),
  (82, .getfield 43, 3, 1003), (85, .baload, 1, 0), (86, .bipush 62, 2, 0), (88, .if_icmp .ne 28, 3, 0), (91, .aload_n 0, 1, 0), (92, .getfield 52, 3, 1004), (95, .bipush 12, 2, 0), (97, .if_icmp .ne 19, 3, 0),
  (100, .aload_n 0, 1, 0), (101, .bipush 15, 2, 0), (103, .putfield 52, 3, 1004), (106, .aload_n 0, 1, 0), (107, .dup, 1, 0), (108, .getfield 43, 3, 1003), (111, .iconst 1, 1, 0), (112, .iadd, 1, 0),
  (113, .putfield 43, 3, 1003), (116, .return_, 1, 0)]
def pT_39 : List pEn := [(0, .aload_n 0, 1, 0), (1, .getfield 20, 3, 700), (4, .getfield 53, 3, 1004), (7, .tableswitch 265 18 28 #[57, 93, 122, 150, 155, 160, 180, 200, 220, 240, 260], 57, 0), (64, .aload_n 0, 1, 0), (65, .bipush 9, 2, 0), (67, .aload_n 0, 1, 0), (68, .getfield 24, 3, 704),
  (71, .getfield 71, 3, 808), (74, .invokevirtual 74, 3, 40), (77, .ifCond .eq 21, 3, 0), (80, .aload_n 0, 1, 0), (81, .invokevirtual 78, 3, 42), (84, .ifCond .eq 14, 3, 0), (87, .aload_n 0, 1, 0), (88, .invokevirtual 81, 3, 46),
  (91, .ifCond .eq 7, 3, 0), (94, .iconst 1, 1, 0), (95, .goto 4, 3, 0), (98, .iconst 0, 1, 0), (99, .ireturn, 1, 0), (100, .aload_n 0, 1, 0), (101, .bipush 6, 2, 0), (103, .aload_n 0, 1, 0),
  (104, .getfield 24, 3, 704), (107, .getfield 84, 3, 809), (110, .invokevirtual 74, 3, 40), (113, .ifCond .eq 14, 3, 0), (116, .aload_n 0, 1, 0), (117, .invokevirtual 87, 3, 47), (120, .ifCond .eq 7, 3, 0), (123, .iconst 1, 1, 0),
  (124, .goto 4, 3, 0), (127, .iconst 0, 1, 0), (128, .ireturn, 1, 0), (129, .aload_n 0, 1, 0), (130, .iconst 3, 1, 0), (131, .aload_n 0, 1, 0), (132, .getfield 24, 3, 704), (135, .getfield 90, 3, 810),
  (138, .invokevirtual 74, 3, 40), (141, .ifCond .eq 14, 3, 0), (144, .aload_n 0, 1, 0), (145, .invokevirtual 93, 3, 49), (148, .ifCond .eq 7, 3, 0), (151, .iconst 1, 1, 0), (152, .goto 4, 3, 0), (155, .iconst 0, 1, 0),
  (156, .ireturn, 1, 0), (157, .aload_n 0, 1, 0), (158, .invokevirtual 96, 3, 51), (161, .ireturn, 1, 0), (162, .aload_n 0, 1, 0), (163, .invokevirtual 99, 3, 53), (166, .ireturn, 1, 0), (167, .aload_n 0, 1, 0),
  (168, .invokevirtual 102, 3, 54), (171, .ifCond .eq 14, 3, 0), (174, .aload_n 0, 1, 0), (175, .invokevirtual 105, 3, 55), (178, .ifCond .eq 7, 3, 0), (181, .iconst 1, 1, 0), (182, .goto 4, 3, 0), (185, .iconst 0, 1, 0),
  (186, .ireturn, 1, 0), (187, .aload_n 0, 1, 0), (188, .invokevirtual 102, 3, 54), (191, .ifCond .eq 14, 3, 0), (194, .aload_n 0, 1, 0), (195, .invokevirtual 108, 3, 56), (198, .ifCond .eq 7, 3, 0), (201, .iconst 1, 1, 0),
  (202, .goto 4, 3, 0), (205, .iconst 0, 1, 0), (206, .ireturn, 1, 0), (207, .aload_n 0, 1, 0), (208, .invokevirtual 102, 3, 54), (211, .ifCond .eq 14, 3, 0), (214, .aload_n 0, 1, 0), (215, .invokevirtual 111, 3, 57),
  (218, .ifCond .eq 7, 3, 0), (221, .iconst 1, 1, 0), (222, .goto 4, 3, 0), (225, .iconst 0, 1, 0), (226, .ireturn, 1, 0), (227, .aload_n 0, 1, 0), (228, .invokevirtual 102, 3, 54), (231, .ifCond .eq 14, 3, 0),
  (234, .aload_n 0, 1, 0), (235, .invokevirtual 114, 3, 58), (238, .ifCond .eq 7, 3, 0), (241, .iconst 1, 1, 0), (242, .goto 4, 3, 0), (245, .iconst 0, 1, 0), (246, .ireturn, 1, 0), (247, .aload_n 0, 1, 0),
  (248, .invokevirtual 102, 3, 54), (251, .ifCond .eq 14, 3, 0), (254, .aload_n 0, 1, 0), (255, .invokevirtual 117, 3, 59), (258, .ifCond .eq 7, 3, 0), (261, .iconst 1, 1, 0), (262, .goto 4, 3, 0), (265, .iconst 0, 1, 0),
  (266, .ireturn, 1, 0), (267, .aload_n 0, 1, 0), (268, .invokevirtual 120, 3, 60), (271, .ireturn, 1, 0), (272, .aload_n 0, 1, 0), (273, .iconst 1, 1, 0), (274, .invokevirtual 60, 3, 41), (277, .ireturn, 1, 0)]
def pT_40 : List pEn := [(0, .iload_n 2, 1, 0), (1, .iload_n 1, 1, 0), (2, .if_icmp .lt 11, 3, 0), (5, .aload_n 0, 1, 0), (6, .iconst 2, 1, 0), (7, .invokevirtual 60, 3, 41), (10, .ifCond .eq 7, 3, 0), (13, .iconst 1, 1, 0),
  (14, .goto 4, 3, 0), (17, .iconst 0, 1, 0), (18, .ireturn, 1, 0)]
def pT_41 : List pEn := [(0, .aload_n 0, 1, 0), (1, .iload_n 1, 1, 0), (2, .putfield 43, 3, 709), (5, .aload_n 0, 1, 0), (6, .aload_n 0, 1, 0), (7, .getfield 20, 3, 700), (10, .getfield 70, 3, 1006), (13, .putfield 46, 3, 710),
  (16, .iconst 0, 1, 0), (17, .ireturn, 1, 0)]
def pT_42 : List pEn := [(0, .aload_n 0, 1, 0), (1, .getfield 24, 3, 704), (4, .getfield 129, 3, 800), (7, .aload_n 0, 1, 0), (8, .getfield 24, 3, 704), (11, .getfield 71, 3, 808), (14, .aaload, 1, 0), (15, .astore_n 1, 1, 0),
  (16, .aload_n 0, 1, 0), (17, .getfield 20, 3, 700), (20, .invokevirtual 64, 3, 31), (23, .aload_n 0, 1, 0), (24, .aload_n 0, 1, 0), (25, .getfield 24, 3, 704), (28, .aload_n 0, 1, 0), (29, .getfield 20, 3, 700),
  (32, .getfield 123, 3, 1005), (35, .invokevirtual 133, 3, 43), (38, .invokevirtual 137, 3, 44), (41, .ifCond .ne 5, 3, 0), (44, .iconst 0, 1, 0), (45, .ireturn, 1, 0), (46, .aload_n 1, 1, 0), (47, .aload_n 0, 1, 0),
  (48, .getfield 20, 3, 700), (51, .getfield 123, 3, 1005), (54, .putfield 140, 3, 100), (57, .aload_n 1, 1, 0), (58, .iconst 0, 1, 0), (59, .putfield 145, 3, 102), (62, .aload_n 1, 1, 0), (63, .iconst 0, 1, 0),
  (64, .putfield 149, 3, 103), (67, .aload_n 1, 1, 0), (68, .iconst 0, 1, 0), (69, .putfield 152, 3, 104), (72, .aload_n 1, 1, 0), (73, .iconst 0, 1, 0), (74, .putfield 155, 3, 105), (77, .aload_n 0, 1, 0),
  (78, .getfield 20, 3, 700), (81, .invokevirtual 64, 3, 31), (84, .aload_n 0, 1, 0), (85, .iconst 0, 1, 0), (86, .bipush 99, 2, 0), (88, .invokevirtual 158, 3, 45), (91, .ifCond .ne 5, 3, 0), (94, .iconst 0, 1, 0),
  (95, .ireturn, 1, 0), (96, .aload_n 1, 1, 0), (97, .aload_n 0, 1, 0), (98, .getfield 126, 3, 708), (101, .putfield 161, 3, 101), (104, .aload_n 0, 1, 0), (105, .getfield 24, 3, 704), (108, .dup, 1, 0),
  (109, .getfield 71, 3, 808), (112, .iconst 1, 1, 0), (113, .iadd, 1, 0), (114, .putfield 71, 3, 808), (117, .aload_n 0, 1, 0), (118, .getfield 20, 3, 700), (121, .getfield 53, 3, 1004), (124, .bipush 29, 2, 0),
  (126, .if_icmp .ne 15, 3, 0), (129, .aload_n 1, 1, 0), (130, .iconst 1, 1, 0), (131, .putfield 145, 3, 102), (134, .aload_n 0, 1, 0), (135, .getfield 20, 3, 700), (138, .invokevirtual 64, 3, 31), (141, .iconst 1, 1, 0),
  (142, .ireturn, 1, 0)]
def pT_43 : List pEn := [(0, .iconst 0, 1, 0), (1, .istore_n 2, 1, 0), (2, .iload_n 2, 1, 0), (3, .aload_n 0, 1, 0), (4, .getfield 51, 3, 808), (7, .if_icmp .ge 24, 3, 0), (10, .aload_n 0, 1, 0), (11, .getfield 11, 3, 800),
  (14, .iload_n 2, 1, 0), (15, .aaload, 1, 0), (16, .getfield 85, 3, 100), (19, .iload_n 1, 1, 0), (20, .if_icmp .ne 5, 3, 0), (23, .iload_n 2, 1, 0), (24, .ireturn, 1, 0), (25, .iinc 2 1, 3, 0),
  (28, .goto (-26), 3, 0), (31, .iconst (-1), 1, 0), (32, .ireturn, 1, 0)]
def pT_44 : List pEn := [(0, .aload_n 0, 1, 0), (1, .getfield 20, 3, 700), (4, .getfield 53, 3, 1004), (7, .iconst 4, 1, 0), (8, .if_icmp .eq 9, 3, 0), (11, .aload_n 0, 1, 0), (12, .iconst 1, 1, 0), (13, .invokevirtual 60, 3, 41),
  (16, .ireturn, 1, 0), (17, .iload_n 1, 1, 0), (18, .iconst (-1), 1, 0), (19, .if_icmp .eq 11, 3, 0), (22, .aload_n 0, 1, 0), (23, .iconst 3, 1, 0), (24, .invokevirtual 60, 3, 41), (27, .ifCond .eq 7, 3, 0),
  (30, .iconst 1, 1, 0), (31, .goto 4, 3, 0), (34, .iconst 0, 1, 0), (35, .ireturn, 1, 0)]
def pT_45 : List pEn := [(0, .aload_n 0, 1, 0), (1, .getfield 20, 3, 700), (4, .getfield 53, 3, 1004), (7, .iconst 3, 1, 0), (8, .if_icmp .eq 9, 3, 0), (11, .aload_n 0, 1, 0), (12, .iconst 1, 1, 0), (13, .invokevirtual 60, 3, 41),
  (16, .ireturn, 1, 0), (17, .aload_n 0, 1, 0), (18, .getfield 20, 3, 700), (21, .getfield 123, 3, 1005), (24, .iload_n 1, 1, 0), (25, .if_icmp .lt 14, 3, 0), (28, .aload_n 0, 1, 0), (29, .getfield 20, 3, 700),
  (32, .getfield 123, 3, 1005), (35, .iload_n 2, 1, 0), (36, .if_icmp .le 9, 3, 0), (39, .aload_n 0, 1, 0), (40, .iconst 2, 1, 0), (41, .invokevirtual 60, 3, 41), (44, .ireturn, 1, 0), (45, .aload_n 0, 1, 0),
  (46, .aload_n 0, 1, 0), (47, .getfield 20, 3, 700), (50, .getfield 123, 3, 1005), (53, .putfield 126, 3, 708), (56, .aload_n 0, 1, 0), (57, .getfield 20, 3, 700), (60, .invokevirtual 64, 3, 31), (63, .iconst 1, 1, 0),
  (64, .ireturn, 1, 0)]
def pT_46 : List pEn := [(0, .aload_n 0, 1, 0), (1, .getfield 20, 3, 700), (4, .getfield 53, 3, 1004), (7, .bipush 30, 2, 0), (9, .if_icmp .eq 5, 3, 0), (12, .iconst 1, 1, 0), (13, .ireturn, 1, 0), (14, .aload_n 0, 1, 0),
  (15, .getfield 20, 3, 700), (18, .invokevirtual 64, 3, 31), (21, .aload_n 0, 1, 0), (22, .getfield 20, 3, 700), (25, .getfield 53, 3, 1004), (28, .bipush 9, 2, 0), (30, .if_icmp .ne 7, 3, 0), (33, .iconst 1, 1, 0),
  (34, .goto 4, 3, 0), (37, .iconst 0, 1, 0), (38, .istore_n 1, 1, 0), (39, .iload_n 1, 1, 0), (40, .ifCond .eq 10, 3, 0), (43, .aload_n 0, 1, 0), (44, .getfield 20, 3, 700), (47, .invokevirtual 64, 3, 31),
  (50, .aload_n 0, 1, 0), (51, .getfield 24, 3, 704), (54, .getfield 71, 3, 808), (57, .ifCond .eq 13, 3, 0), (60, .aload_n 0, 1, 0), (61, .iconst 0, 1, 0), (62, .bipush 9, 2, 0), (64, .invokevirtual 158, 3, 45),
  (67, .ifCond .ne 5, 3, 0), (70, .iconst 0, 1, 0), (71, .ireturn, 1, 0), (72, .aload_n 0, 1, 0), (73, .getfield 24, 3, 704), (76, .getfield 129, 3, 800), (79, .aload_n 0, 1, 0), (80, .getfield 24, 3, 704),
  (83, .getfield 71, 3, 808), (86, .iconst 1, 1, 0), (87, .isub, 1, 0), (88, .aaload, 1, 0), (89, .iload_n 1, 1, 0), (90, .ifCond .eq 11, 3, 0), (93, .aload_n 0, 1, 0), (94, .getfield 126, 3, 708),
  (97, .ineg, 1, 0), (98, .goto 7, 3, 0), (101, .aload_n 0, 1, 0), (102, .getfield 126, 3, 708), (105, .putfield 149, 3, 103), (108, .iconst 1, 1, 0), (109, .ireturn, 1, 0)]
def pT_47 : List pEn := [(0, .aload_n 0, 1, 0), (1, .getfield 24, 3, 704), (4, .getfield 164, 3, 801), (7, .aload_n 0, 1, 0), (8, .getfield 24, 3, 704), (11, .getfield 84, 3, 809), (14, .aaload, 1, 0), (15, .astore_n 1, 1, 0),
  (16, .aload_n 0, 1, 0), (17, .getfield 20, 3, 700), (20, .invokevirtual 64, 3, 31), (23, .aload_n 0, 1, 0), (24, .aload_n 0, 1, 0), (25, .getfield 24, 3, 704), (28, .aload_n 0, 1, 0), (29, .getfield 20, 3, 700),
  (32, .getfield 123, 3, 1005), (35, .invokevirtual 168, 3, 48), (38, .invokevirtual 137, 3, 44), (41, .ifCond .ne 5, 3, 0), (44, .iconst 0, 1, 0), (45, .ireturn, 1, 0), (46, .aload_n 1, 1, 0), (47, .aload_n 0, 1, 0),
  (48, .getfield 20, 3, 700), (51, .getfield 123, 3, 1005), (54, .putfield 171, 3, 400), (57, .aload_n 0, 1, 0), (58, .getfield 20, 3, 700), (61, .invokevirtual 64, 3, 31), (64, .aload_n 0, 1, 0), (65, .iconst 1, 1, 0),
  (66, .bipush 60, 2, 0), (68, .invokevirtual 158, 3, 45), (71, .ifCond .ne 5, 3, 0), (74, .iconst 0, 1, 0), (75, .ireturn, 1, 0), (76, .aload_n 1, 1, 0), (77, .aload_n 0, 1, 0), (78, .getfield 126, 3, 708),
  (81, .putfield 174, 3, 401), (84, .aload_n 0, 1, 0), (85, .iconst 0, 1, 0), (86, .bipush 99, 2, 0), (88, .invokevirtual 158, 3, 45), (91, .ifCond .ne 5, 3, 0), (94, .iconst 0, 1, 0), (95, .ireturn, 1, 0),
  (96, .aload_n 1, 1, 0), (97, .aload_n 0, 1, 0), (98, .getfield 126, 3, 708), (101, .putfield 177, 3, 402), (104, .aload_n 0, 1, 0), (105, .iconst 0, 1, 0), (106, .bipush 99, 2, 0), (108, .invokevirtual 158, 3, 45),
  (111, .ifCond .ne 5, 3, 0), (114, .iconst 0, 1, 0), (115, .ireturn, 1, 0), (116, .aload_n 1, 1, 0), (117, .aload_n 0, 1, 0), (118, .getfield 126, 3, 708), (121, .putfield 180, 3, 403), (124, .aload_n 0, 1, 0),
  (125, .getfield 24, 3, 704), (128, .dup, 1, 0), (129, .getfield 84, 3, 809), (132, .iconst 1, 1, 0), (133, .iadd, 1, 0), (134, .putfield 84, 3, 809), (137, .iconst 1, 1, 0), (138, .ireturn, 1, 0)]
def pT_48 : List pEn := [(0, .iconst 0, 1, 0), (1, .istore_n 2, 1, 0), (2, .iload_n 2, 1, 0), (3, .aload_n 0, 1, 0), (4, .getfield 55, 3, 809), (7, .if_icmp .ge 24, 3, 0), (10, .aload_n 0, 1, 0), (11, .getfield 19, 3, 801),
  (14, .iload_n 2, 1, 0), (15, .aaload, 1, 0), (16, .getfield 88, 3, 400), (19, .iload_n 1, 1, 0), (20, .if_icmp .ne 5, 3, 0), (23, .iload_n 2, 1, 0), (24, .ireturn, 1, 0), (25, .iinc 2 1, 3, 0),
  (28, .goto (-26), 3, 0), (31, .iconst (-1), 1, 0), (32, .ireturn, 1, 0)]
def pT_49 : List pEn := [(0, .aload_n 0, 1, 0), (1, .getfield 24, 3, 704), (4, .getfield 90, 3, 810), (7, .istore_n 1, 1, 0), (8, .aload_n 0, 1, 0), (9, .getfield 20, 3, 700), (12, .invokevirtual 64, 3, 31), (15, .aload_n 0, 1, 0),
  (16, .aload_n 0, 1, 0), (17, .getfield 24, 3, 704), (20, .aload_n 0, 1, 0), (21, .getfield 20, 3, 700), (24, .getfield 123, 3, 1005), (27, .invokevirtual 183, 3, 50), (30, .invokevirtual 137, 3, 44), (33, .ifCond .ne 5, 3, 0),
  (36, .iconst 0, 1, 0), (37, .ireturn, 1, 0), (38, .aload_n 0, 1, 0), (39, .getfield 24, 3, 704), (42, .getfield 186, 3, 802), (45, .iload_n 1, 1, 0), (46, .aload_n 0, 1, 0), (47, .getfield 20, 3, 700),
  (50, .getfield 123, 3, 1005), (53, .iastore, 1, 0), (54, .aload_n 0, 1, 0), (55, .getfield 20, 3, 700), (58, .invokevirtual 64, 3, 31), (61, .aload_n 0, 1, 0), (62, .iconst 1, 1, 0), (63, .bipush 9, 2, 0),
  (65, .invokevirtual 158, 3, 45), (68, .ifCond .ne 5, 3, 0), (71, .iconst 0, 1, 0), (72, .ireturn, 1, 0), (73, .aload_n 0, 1, 0), (74, .getfield 24, 3, 704), (77, .getfield 189, 3, 803), (80, .iload_n 1, 1, 0),
  (81, .aload_n 0, 1, 0), (82, .getfield 126, 3, 708), (85, .iastore, 1, 0), (86, .aload_n 0, 1, 0), (87, .iconst 0, 1, 0), (88, .iconst 3, 1, 0), (89, .invokevirtual 158, 3, 45), (92, .ifCond .ne 5, 3, 0),
  (95, .iconst 0, 1, 0), (96, .ireturn, 1, 0), (97, .aload_n 0, 1, 0), (98, .getfield 24, 3, 704), (101, .getfield 192, 3, 804), (104, .iload_n 1, 1, 0), (105, .aload_n 0, 1, 0), (106, .getfield 126, 3, 708),
  (109, .iastore, 1, 0), (110, .aload_n 0, 1, 0), (111, .getfield 24, 3, 704), (114, .dup, 1, 0), (115, .getfield 90, 3, 810), (118, .iconst 1, 1, 0), (119, .iadd, 1, 0), (120, .putfield 90, 3, 810),
  (123, .iconst 1, 1, 0), (124, .ireturn, 1, 0)]
def pT_50 : List pEn := [(0, .iconst 0, 1, 0), (1, .istore_n 2, 1, 0), (2, .iload_n 2, 1, 0), (3, .aload_n 0, 1, 0), (4, .getfield 58, 3, 810), (7, .if_icmp .ge 21, 3, 0), (10, .aload_n 0, 1, 0), (11, .getfield 23, 3, 802),
  (14, .iload_n 2, 1, 0), (15, .iaload, 1, 0), (16, .iload_n 1, 1, 0), (17, .if_icmp .ne 5, 3, 0), (20, .iload_n 2, 1, 0), (21, .ireturn, 1, 0), (22, .iinc 2 1, 3, 0), (25, .goto (-23), 3, 0),
  (28, .iconst (-1), 1, 0), (29, .ireturn, 1, 0)]
def pT_51 : List pEn := [(0, .aload_n 0, 1, 0), (1, .getfield 20, 3, 700), (4, .invokevirtual 64, 3, 31), (7, .aload_n 0, 1, 0), (8, .aload_n 0, 1, 0), (9, .getfield 37, 3, 706), (12, .invokevirtual 195, 3, 52), (15, .istore_n 1, 1, 0),
  (16, .iload_n 1, 1, 0), (17, .iconst (-1), 1, 0), (18, .if_icmp .eq 13, 3, 0), (21, .aload_n 0, 1, 0), (22, .iconst 0, 1, 0), (23, .bipush 9, 2, 0), (25, .invokevirtual 158, 3, 45), (28, .ifCond .ne 5, 3, 0),
  (31, .iconst 0, 1, 0), (32, .ireturn, 1, 0), (33, .aload_n 0, 1, 0), (34, .getfield 24, 3, 704), (37, .getfield 129, 3, 800), (40, .iload_n 1, 1, 0), (41, .aaload, 1, 0), (42, .aload_n 0, 1, 0),
  (43, .getfield 126, 3, 708), (46, .putfield 152, 3, 104), (49, .aload_n 0, 1, 0), (50, .dup, 1, 0), (51, .getfield 37, 3, 706), (54, .iconst 1, 1, 0), (55, .iload_n 1, 1, 0), (56, .ishl, 1, 0),
  (57, .ior, 1, 0), (58, .putfield 37, 3, 706), (61, .iconst 1, 1, 0), (62, .ireturn, 1, 0)]
def pT_52 : List pEn := [(0, .aload_n 0, 1, 0), (1, .getfield 20, 3, 700), (4, .getfield 53, 3, 1004), (7, .iconst 4, 1, 0), (8, .if_icmp .ne 20, 3, 0), (11, .aload_n 0, 1, 0), (12, .getfield 24, 3, 704), (15, .aload_n 0, 1, 0),
  (16, .getfield 20, 3, 700), (19, .getfield 123, 3, 1005), (22, .invokevirtual 133, 3, 43), (25, .goto 4, 3, 0), (28, .iconst (-1), 1, 0), (29, .istore_n 2, 1, 0), (30, .iload_n 2, 1, 0), (31, .iconst (-1), 1, 0),
  (32, .if_icmp .ne 26, 3, 0), (35, .aload_n 0, 1, 0), (36, .aload_n 0, 1, 0), (37, .getfield 20, 3, 700), (40, .getfield 53, 3, 1004), (43, .iconst 4, 1, 0), (44, .if_icmp .ne 7, 3, 0), (47, .iconst 4, 1, 0),
  (48, .goto 4, 3, 0), (51, .iconst 1, 1, 0), (52, .invokevirtual 60, 3, 41), (55, .pop, 1, 0), (56, .iconst (-1), 1, 0), (57, .ireturn, 1, 0), (58, .iload_n 1, 1, 0), (59, .iload_n 2, 1, 0),
  (60, .ishr, 1, 0), (61, .iconst 1, 1, 0), (62, .iand, 1, 0), (63, .iconst 1, 1, 0), (64, .if_icmp .ne 11, 3, 0), (67, .aload_n 0, 1, 0), (68, .iconst 3, 1, 0), (69, .invokevirtual 60, 3, 41),
  (72, .pop, 1, 0), (73, .iconst (-1), 1, 0), (74, .ireturn, 1, 0), (75, .aload_n 0, 1, 0), (76, .getfield 20, 3, 700), (79, .invokevirtual 64, 3, 31), (82, .iload_n 2, 1, 0), (83, .ireturn, 1, 0)]
def pT_53 : List pEn := [(0, .aload_n 0, 1, 0), (1, .getfield 20, 3, 700), (4, .invokevirtual 64, 3, 31), (7, .aload_n 0, 1, 0), (8, .aload_n 0, 1, 0), (9, .getfield 40, 3, 707), (12, .invokevirtual 195, 3, 52), (15, .istore_n 1, 1, 0),
  (16, .iload_n 1, 1, 0), (17, .iconst (-1), 1, 0), (18, .if_icmp .eq 13, 3, 0), (21, .aload_n 0, 1, 0), (22, .iconst 0, 1, 0), (23, .bipush 99, 2, 0), (25, .invokevirtual 158, 3, 45), (28, .ifCond .ne 5, 3, 0),
  (31, .iconst 0, 1, 0), (32, .ireturn, 1, 0), (33, .aload_n 0, 1, 0), (34, .getfield 24, 3, 704), (37, .getfield 129, 3, 800), (40, .iload_n 1, 1, 0), (41, .aaload, 1, 0), (42, .aload_n 0, 1, 0),
  (43, .getfield 126, 3, 708), (46, .putfield 155, 3, 105), (49, .aload_n 0, 1, 0), (50, .dup, 1, 0), (51, .getfield 40, 3, 707), (54, .iconst 1, 1, 0), (55, .iload_n 1, 1, 0), (56, .ishl, 1, 0),
  (57, .ior, 1, 0), (58, .putfield 40, 3, 707), (61, .iconst 1, 1, 0), (62, .ireturn, 1, 0)]
def pT_54 : List pEn := [(0, .iconst 1, 1, 0), (1, .aload_n 0, 1, 0), (2, .getfield 20, 3, 700), (5, .getfield 53, 3, 1004), (8, .bipush 18, 2, 0), (10, .isub, 1, 0), (11, .ishl, 1, 0), (12, .istore_n 1, 1, 0),
  (13, .aload_n 0, 1, 0), (14, .getfield 33, 3, 705), (17, .iload_n 1, 1, 0), (18, .iand, 1, 0), (19, .ifCond .eq 9, 3, 0), (22, .aload_n 0, 1, 0), (23, .iconst 3, 1, 0), (24, .invokevirtual 60, 3, 41),
  (27, .ireturn, 1, 0), (28, .aload_n 0, 1, 0), (29, .dup, 1, 0), (30, .getfield 33, 3, 705), (33, .iload_n 1, 1, 0), (34, .ior, 1, 0), (35, .putfield 33, 3, 705), (38, .iconst 1, 1, 0),
  (39, .ireturn, 1, 0)]
def pT_55 : List pEn := [(0, .aload_n 0, 1, 0), (1, .getfield 20, 3, 700), (4, .invokevirtual 64, 3, 31), (7, .iconst 0, 1, 0), (8, .istore_n 1, 1, 0), (9, .iload_n 1, 1, 0), (10, .bipush 24, 2, 0), (12, .if_icmp .ge 51, 3, 0),
  (15, .iload_n 1, 1, 0), (16, .ifCond .le 16, 3, 0), (19, .aload_n 0, 1, 0), (20, .getfield 20, 3, 700), (23, .getfield 53, 3, 1004), (26, .iconst 3, 1, 0), (27, .if_icmp .eq 5, 3, 0), (30, .iconst 1, 1, 0),
  (31, .ireturn, 1, 0), (32, .aload_n 0, 1, 0), (33, .iconst 0, 1, 0), (34, .bipush 9, 2, 0), (36, .invokevirtual 158, 3, 45), (39, .ifCond .ne 5, 3, 0), (42, .iconst 0, 1, 0), (43, .ireturn, 1, 0),
  (44, .aload_n 0, 1, 0), (45, .getfield 24, 3, 704), (48, .getfield 198, 3, 805), (51, .iload_n 1, 1, 0), (52, .aload_n 0, 1, 0), (53, .getfield 126, 3, 708), (56, .iastore, 1, 0), (57, .iinc 1 1, 3, 0),
  (60, .goto (-51), 3, 0), (63, .aload_n 0, 1, 0), (64, .getfield 20, 3, 700), (67, .getfield 53, 3, 1004), (70, .iconst 3, 1, 0), (71, .if_icmp .ne 11, 3, 0), (74, .aload_n 0, 1, 0), (75, .iconst 2, 1, 0),
  (76, .invokevirtual 60, 3, 41), (79, .ifCond .eq 7, 3, 0), (82, .iconst 1, 1, 0), (83, .goto 4, 3, 0), (86, .iconst 0, 1, 0), (87, .ireturn, 1, 0)]
def pT_56 : List pEn := [(0, .aload_n 0, 1, 0), (1, .getfield 20, 3, 700), (4, .invokevirtual 64, 3, 31), (7, .aload_n 0, 1, 0), (8, .iconst 1, 1, 0), (9, .sipush 199, 3, 0), (12, .invokevirtual 158, 3, 45), (15, .ifCond .ne 5, 3, 0),
  (18, .iconst 0, 1, 0), (19, .ireturn, 1, 0), (20, .aload_n 0, 1, 0), (21, .getfield 24, 3, 704), (24, .aload_n 0, 1, 0), (25, .getfield 126, 3, 708), (28, .putfield 201, 3, 811), (31, .aload_n 0, 1, 0),
  (32, .iconst 0, 1, 0), (33, .bipush 99, 2, 0), (35, .invokevirtual 158, 3, 45), (38, .ifCond .ne 5, 3, 0), (41, .iconst 0, 1, 0), (42, .ireturn, 1, 0), (43, .aload_n 0, 1, 0), (44, .getfield 24, 3, 704),
  (47, .aload_n 0, 1, 0), (48, .getfield 126, 3, 708), (51, .putfield 204, 3, 812), (54, .iconst 1, 1, 0), (55, .ireturn, 1, 0)]
def pT_57 : List pEn := [(0, .aload_n 0, 1, 0), (1, .getfield 20, 3, 700), (4, .invokevirtual 64, 3, 31), (7, .aload_n 0, 1, 0), (8, .iconst 0, 1, 0), (9, .bipush 99, 2, 0), (11, .invokevirtual 158, 3, 45), (14, .ifCond .ne 5, 3, 0),
  (17, .iconst 0, 1, 0), (18, .ireturn, 1, 0), (19, .aload_n 0, 1, 0), (20, .getfield 24, 3, 704), (23, .aload_n 0, 1, 0), (24, .getfield 126, 3, 708), (27, .putfield 207, 3, 813), (30, .iconst 1, 1, 0),
  (31, .ireturn, 1, 0)]
def pT_58 : List pEn := [(0, .aload_n 0, 1, 0), (1, .getfield 20, 3, 700), (4, .invokevirtual 64, 3, 31), (7, .aload_n 0, 1, 0), (8, .iconst 1, 1, 0), (9, .bipush 20, 2, 0), (11, .invokevirtual 158, 3, 45), (14, .ifCond .ne 5, 3, 0),
  (17, .iconst 0, 1, 0), (18, .ireturn, 1, 0), (19, .aload_n 0, 1, 0), (20, .getfield 24, 3, 704), (23, .aload_n 0, 1, 0), (24, .getfield 126, 3, 708), (27, .putfield 210, 3, 814), (30, .iconst 1, 1, 0),
  (31, .ireturn, 1, 0)]
def pT_59 : List pEn := [(0, .aload_n 0, 1, 0), (1, .getfield 20, 3, 700), (4, .invokevirtual 64, 3, 31), (7, .aload_n 0, 1, 0), (8, .iconst 0, 1, 0), (9, .ldc 213, 2, 1), (11, .invokevirtual 158, 3, 45), (14, .ifCond .ne 5, 3, 0),
  (17, .iconst 0, 1, 0), (18, .ireturn, 1, 0), (19, .aload_n 0, 1, 0), (20, .getfield 24, 3, 704), (23, .aload_n 0, 1, 0), (24, .getfield 126, 3, 708), (27, .putfield 214, 3, 815), (30, .iconst 1, 1, 0),
  (31, .ireturn, 1, 0)]
def pT_60 : List pEn := [(0, .aload_n 0, 1, 0), (1, .getfield 20, 3, 700), (4, .invokevirtual 64, 3, 31), (7, .aload_n 0, 1, 0), (8, .getfield 20, 3, 700), (11, .getfield 53, 3, 1004), (14, .bipush 31, 2, 0), (16, .if_icmp .eq 21, 3, 0),
  (19, .aload_n 0, 1, 0), (20, .getfield 20, 3, 700), (23, .getfield 53, 3, 1004), (26, .bipush 32, 2, 0), (28, .if_icmp .eq 9, 3, 0), (31, .aload_n 0, 1, 0), (32, .iconst 1, 1, 0), (33, .invokevirtual 60, 3, 41),
  (36, .ireturn, 1, 0), (37, .aload_n 0, 1, 0), (38, .getfield 20, 3, 700), (41, .getfield 53, 3, 1004), (44, .bipush 31, 2, 0), (46, .if_icmp .ne 13, 3, 0), (49, .aload_n 0, 1, 0), (50, .getfield 24, 3, 704),
  (53, .getfield 217, 3, 806), (56, .goto 10, 3, 0), (59, .aload_n 0, 1, 0), (60, .getfield 24, 3, 704), (63, .getfield 221, 3, 807), (66, .astore_n 1, 1, 0), (67, .aload_n 1, 1, 0), (68, .invokevirtual 224, 3, 61),
  (71, .ifCond .eq 9, 3, 0), (74, .aload_n 0, 1, 0), (75, .iconst 3, 1, 0), (76, .invokevirtual 60, 3, 41), (79, .ireturn, 1, 0), (80, .aload_n 0, 1, 0), (81, .iconst 0, 1, 0), (82, .putfield 229, 3, 702),
  (85, .aload_n 0, 1, 0), (86, .iconst 0, 1, 0), (87, .putfield 232, 3, 703), (90, .iconst 1, 1, 0), (91, .istore_n 2, 1, 0), (92, .iconst 0, 1, 0), (93, .istore_n 3, 1, 0), (94, .iload_n 3, 1, 0),
  (95, .sipush 700, 3, 0), (98, .if_icmp .ge 166, 3, 0), (101, .aload_n 0, 1, 0), (102, .getfield 20, 3, 700), (105, .invokevirtual 64, 3, 31), (108, .iload_n 2, 1, 0), (109, .ifCond .eq 46, 3, 0), (112, .aload_n 0, 1, 0),
  (113, .aload_n 1, 1, 0), (114, .invokevirtual 235, 3, 62), (117, .ifCond .ne 5, 3, 0), (120, .iconst 0, 1, 0), (121, .ireturn, 1, 0), (122, .aload_n 0, 1, 0), (123, .getfield 20, 3, 700), (126, .getfield 53, 3, 1004),
  (129, .bipush 6, 2, 0), (131, .if_icmp .eq 15, 3, 0), (134, .aload_n 0, 1, 0), (135, .getfield 20, 3, 700), (138, .getfield 53, 3, 1004), (141, .bipush 35, 2, 0), (143, .if_icmp .ne 7, 3, 0), (146, .iconst 1, 1, 0),
  (147, .goto 4, 3, 0), (150, .iconst 0, 1, 0), (151, .istore_n 2, 1, 0), (152, .goto 106, 3, 0), (155, .aload_n 0, 1, 0), (156, .getfield 20, 3, 700), (159, .getfield 53, 3, 1004), (162, .bipush 7, 2, 0),
  (164, .if_icmp .ne 39, 3, 0), (167, .aload_n 0, 1, 0), (168, .getfield 232, 3, 703), (171, .ifCond .le 32, 3, 0), (174, .aload_n 0, 1, 0), (175, .aload_n 1, 1, 0), (176, .iconst 1, 1, 0), (177, .invokevirtual 239, 3, 68),
  (180, .aload_n 0, 1, 0), (181, .dup, 1, 0), (182, .getfield 229, 3, 702), (185, .iconst 1, 1, 0), (186, .isub, 1, 0), (187, .putfield 229, 3, 702), (190, .aload_n 0, 1, 0), (191, .dup, 1, 0),
  (192, .getfield 232, 3, 703), (195, .iconst 1, 1, 0), (196, .isub, 1, 0), (197, .putfield 232, 3, 703), (200, .goto 58, 3, 0), (203, .aload_n 0, 1, 0), (204, .getfield 20, 3, 700), (207, .getfield 53, 3, 1004),
  (210, .invokestatic 243, 3, 1067), (213, .ifCond .eq 18, 3, 0), (216, .aload_n 0, 1, 0), (217, .aload_n 1, 1, 0), (218, .invokevirtual 246, 3, 69), (221, .ifCond .ne 5, 3, 0), (224, .iconst 0, 1, 0), (225, .ireturn, 1, 0),
  (226, .iconst 1, 1, 0), (227, .istore_n 2, 1, 0), (228, .goto 30, 3, 0), (231, .aload_n 0, 1, 0), (232, .aload_n 1, 1, 0), (233, .iconst 1, 1, 0), (234, .invokevirtual 239, 3, 68), (237, .aload_n 0, 1, 0),
  (238, .getfield 232, 3, 703), (241, .ifCond .eq 11, 3, 0), (244, .aload_n 0, 1, 0), (245, .iconst 1, 1, 0), (246, .invokevirtual 60, 3, 41), (249, .ifCond .eq 7, 3, 0), (252, .iconst 1, 1, 0), (253, .goto 4, 3, 0),
  (256, .iconst 0, 1, 0), (257, .ireturn, 1, 0), (258, .iinc 3 1, 3, 0), (261, .goto (-167), 3, 0), (264, .aload_n 0, 1, 0), (265, .iconst 1, 1, 0), (266, .invokevirtual 60, 3, 41), (269, .ireturn, 1, 0)]
def pT_61 : List pEn := [(0, .aload_n 0, 1, 0), (1, .getfield 15, 3, 501), (4, .ifCond .le 7, 3, 0), (7, .iconst 1, 1, 0), (8, .goto 4, 3, 0), (11, .iconst 0, 1, 0), (12, .ireturn, 1, 0)]
def pT_62 : List pEn := [(0, .aload_n 0, 1, 0), (1, .getfield 20, 3, 700), (4, .getfield 53, 3, 1004), (7, .istore_n 2, 1, 0), (8, .iload_n 2, 1, 0), (9, .iconst 3, 1, 0), (10, .if_icmp .ne 38, 3, 0), (13, .aload_n 0, 1, 0),
  (14, .getfield 20, 3, 700), (17, .getfield 123, 3, 1005), (20, .sipush 9999, 3, 0), (23, .if_icmp .le 9, 3, 0), (26, .aload_n 0, 1, 0), (27, .iconst 2, 1, 0), (28, .invokevirtual 60, 3, 41), (31, .ireturn, 1, 0),
  (32, .aload_n 1, 1, 0), (33, .aload_n 0, 1, 0), (34, .getfield 20, 3, 700), (37, .getfield 123, 3, 1005), (40, .invokevirtual 252, 3, 63), (43, .aload_n 0, 1, 0), (44, .invokevirtual 255, 3, 64), (47, .ireturn, 1, 0),
  (48, .iload_n 2, 1, 0), (49, .bipush 36, 2, 0), (51, .if_icmp .lt 20, 3, 0), (54, .iload_n 2, 1, 0), (55, .bipush 41, 2, 0), (57, .if_icmp .gt 14, 3, 0), (60, .aload_n 1, 1, 0), (61, .iload_n 2, 1, 0),
  (62, .ineg, 1, 0), (63, .invokevirtual 252, 3, 63), (66, .aload_n 0, 1, 0), (67, .invokevirtual 255, 3, 64), (70, .ireturn, 1, 0), (71, .iload_n 2, 1, 0), (72, .bipush 6, 2, 0), (74, .if_icmp .ne 35, 3, 0),
  (77, .aload_n 0, 1, 0), (78, .getfield 232, 3, 703), (81, .bipush 8, 2, 0), (83, .if_icmp .lt 9, 3, 0), (86, .aload_n 0, 1, 0), (87, .iconst 2, 1, 0), (88, .invokevirtual 60, 3, 41), (91, .ireturn, 1, 0),
  (92, .aload_n 0, 1, 0), (93, .dup, 1, 0), (94, .getfield 232, 3, 703), (97, .iconst 1, 1, 0), (98, .iadd, 1, 0), (99, .putfield 232, 3, 703), (102, .aload_n 0, 1, 0), (103, .iload_n 2, 1, 0),
  (104, .invokevirtual 258, 3, 65), (107, .iconst 1, 1, 0), (108, .ireturn, 1, 0), (109, .iload_n 2, 1, 0), (110, .bipush 35, 2, 0), (112, .if_icmp .ne 21, 3, 0), (115, .aload_n 0, 1, 0), (116, .invokevirtual 261, 3, 66),
  (119, .iconst 3, 1, 0), (120, .if_icmp .gt 13, 3, 0), (123, .aload_n 0, 1, 0), (124, .iload_n 2, 1, 0), (125, .invokevirtual 258, 3, 65), (128, .aload_n 0, 1, 0), (129, .invokevirtual 255, 3, 64), (132, .ireturn, 1, 0),
  (133, .aload_n 0, 1, 0), (134, .iconst 1, 1, 0), (135, .invokevirtual 60, 3, 41), (138, .ireturn, 1, 0)]
def pT_63 : List pEn := [(0, .aload_n 0, 1, 0), (1, .getfield 15, 3, 501), (4, .bipush 64, 2, 0), (6, .if_icmp .ge 23, 3, 0), (9, .aload_n 0, 1, 0), (10, .getfield 9, 3, 500), (13, .aload_n 0, 1, 0), (14, .getfield 15, 3, 501),
  (17, .iload_n 1, 1, 0), (18, .iastore, 1, 0), (19, .aload_n 0, 1, 0), (20, .dup, 1, 0), (21, .getfield 15, 3, 501), (24, .iconst 1, 1, 0), (25, .iadd, 1, 0), (26, .putfield 15, 3, 501),
  (29, .return_, 1, 0)]
def pT_64 : List pEn := [(0, .aload_n 0, 1, 0), (1, .getfield 24, 3, 704), (4, .getfield 249, 3, 816), (7, .bipush 64, 2, 0), (9, .if_icmp .lt 9, 3, 0), (12, .aload_n 0, 1, 0), (13, .iconst 2, 1, 0), (14, .invokevirtual 60, 3, 41),
  (17, .ireturn, 1, 0), (18, .aload_n 0, 1, 0), (19, .getfield 24, 3, 704), (22, .dup, 1, 0), (23, .getfield 249, 3, 816), (26, .iconst 1, 1, 0), (27, .iadd, 1, 0), (28, .putfield 249, 3, 816),
  (31, .iconst 1, 1, 0), (32, .ireturn, 1, 0)]
def pT_65 : List pEn := [(0, .aload_n 0, 1, 0), (1, .getfield 229, 3, 702), (4, .aload_n 0, 1, 0), (5, .getfield 9, 3, 701), (8, .arraylength, 1, 0), (9, .if_icmp .ge 23, 3, 0), (12, .aload_n 0, 1, 0), (13, .getfield 9, 3, 701),
  (16, .aload_n 0, 1, 0), (17, .getfield 229, 3, 702), (20, .iload_n 1, 1, 0), (21, .iastore, 1, 0), (22, .aload_n 0, 1, 0), (23, .dup, 1, 0), (24, .getfield 229, 3, 702), (27, .iconst 1, 1, 0),
  (28, .iadd, 1, 0), (29, .putfield 229, 3, 702), (32, .return_, 1, 0)]
def pT_66 : List pEn := [(0, .aload_n 0, 1, 0), (1, .getfield 229, 3, 702), (4, .ifCond .ne 5, 3, 0), (7, .iconst 0, 1, 0), (8, .ireturn, 1, 0), (9, .aload_n 0, 1, 0), (10, .getfield 9, 3, 701), (13, .aload_n 0, 1, 0),
  (14, .getfield 229, 3, 702), (17, .iconst 1, 1, 0), (18, .isub, 1, 0), (19, .iaload, 1, 0), (20, .bipush 35, 2, 0), (22, .if_icmp .ne 7, 3, 0), (25, .iconst 3, 1, 0), (26, .goto 17, 3, 0),
  (29, .aload_n 0, 1, 0), (30, .getfield 9, 3, 701), (33, .aload_n 0, 1, 0), (34, .getfield 229, 3, 702), (37, .iconst 1, 1, 0), (38, .isub, 1, 0), (39, .iaload, 1, 0), (40, .invokestatic 243, 3, 1067),
  (43, .ireturn, 1, 0)]
def pT_67 : List pEn := [(0, .iload_n 0, 1, 0), (1, .lookupswitch 68 #[(8, 63), (9, 63), (10, 65), (11, 65), (33, 59), (34, 61)], 59, 0), (60, .iconst 1, 1, 0), (61, .ireturn, 1, 0), (62, .iconst 2, 1, 0), (63, .ireturn, 1, 0), (64, .iconst 5, 1, 0), (65, .ireturn, 1, 0),
  (66, .bipush 6, 2, 0), (68, .ireturn, 1, 0), (69, .iload_n 0, 1, 0), (70, .bipush 12, 2, 0), (72, .if_icmp .lt 13, 3, 0), (75, .iload_n 0, 1, 0), (76, .bipush 17, 2, 0), (78, .if_icmp .gt 7, 3, 0),
  (81, .iconst 4, 1, 0), (82, .goto 4, 3, 0), (85, .iconst 0, 1, 0), (86, .ireturn, 1, 0)]
def pT_68 : List pEn := [(0, .aload_n 0, 1, 0), (1, .getfield 229, 3, 702), (4, .ifCond .le 38, 3, 0), (7, .aload_n 0, 1, 0), (8, .invokevirtual 261, 3, 66), (11, .iload_n 2, 1, 0), (12, .if_icmp .lt 30, 3, 0), (15, .aload_n 0, 1, 0),
  (16, .dup, 1, 0), (17, .getfield 229, 3, 702), (20, .iconst 1, 1, 0), (21, .isub, 1, 0), (22, .putfield 229, 3, 702), (25, .aload_n 1, 1, 0), (26, .aload_n 0, 1, 0), (27, .getfield 9, 3, 701),
  (30, .aload_n 0, 1, 0), (31, .getfield 229, 3, 702), (34, .iaload, 1, 0), (35, .ineg, 1, 0), (36, .invokevirtual 252, 3, 63), (39, .goto (-39), 3, 0), (42, .return_, 1, 0)]
def pT_69 : List pEn := [(0, .aload_n 0, 1, 0), (1, .getfield 20, 3, 700), (4, .getfield 53, 3, 1004), (7, .invokestatic 243, 3, 1067), (10, .istore_n 2, 1, 0), (11, .aload_n 0, 1, 0), (12, .aload_n 1, 1, 0), (13, .iload_n 2, 1, 0),
  (14, .iconst 4, 1, 0), (15, .if_icmp .ne 7, 3, 0), (18, .iconst 5, 1, 0), (19, .goto 4, 3, 0), (22, .iload_n 2, 1, 0), (23, .invokevirtual 239, 3, 68), (26, .iload_n 2, 1, 0), (27, .iconst 4, 1, 0),
  (28, .if_icmp .ne 17, 3, 0), (31, .aload_n 0, 1, 0), (32, .invokevirtual 261, 3, 66), (35, .iconst 4, 1, 0), (36, .if_icmp .ne 9, 3, 0), (39, .aload_n 0, 1, 0), (40, .iconst 1, 1, 0), (41, .invokevirtual 60, 3, 41),
  (44, .ireturn, 1, 0), (45, .aload_n 0, 1, 0), (46, .aload_n 0, 1, 0), (47, .getfield 20, 3, 700), (50, .getfield 53, 3, 1004), (53, .invokevirtual 258, 3, 65), (56, .aload_n 0, 1, 0), (57, .invokevirtual 255, 3, 64),
  (60, .ireturn, 1, 0)]
def pT_70 : List pEn := [(0, .iload_n 1, 1, 0), (1, .ifCond .ne 8, 3, 0), (4, .aload_n 0, 1, 0), (5, .getfield 122, 3, 1102), (8, .ireturn, 1, 0), (9, .iload_n 1, 1, 0), (10, .iconst 1, 1, 0), (11, .if_icmp .ne 10, 3, 0),
  (14, .aload_n 0, 1, 0), (15, .getfield 15, 3, 1103), (18, .goto 4, 3, 0), (21, .iconst (-1), 1, 0), (22, .ireturn, 1, 0)]
def pT_71 : List pEn := [(0, .iload_n 1, 1, 0), (1, .tableswitch 54 0 2 #[27, 36, 45], 27, 0), (28, .aload_n 0, 1, 0), (29, .getfield 22, 3, 1105), (32, .iload_n 2, 1, 0), (33, .invokevirtual 127, 3, 43), (36, .ireturn, 1, 0), (37, .aload_n 0, 1, 0),
  (38, .getfield 22, 3, 1105), (41, .iload_n 2, 1, 0), (42, .invokevirtual 131, 3, 48), (45, .ireturn, 1, 0), (46, .aload_n 0, 1, 0), (47, .getfield 22, 3, 1105), (50, .iload_n 2, 1, 0), (51, .invokevirtual 134, 3, 50),
  (54, .ireturn, 1, 0), (55, .iconst (-1), 1, 0), (56, .ireturn, 1, 0)]
def pT_72 : List pEn := [(0, .aload_n 0, 1, 0), (1, .iload_n 1, 1, 0), (2, .invokevirtual 177, 3, 73), (5, .ifCond .ne 5, 3, 0), (8, .iconst (-1), 1, 0), (9, .ireturn, 1, 0), (10, .aload_n 0, 1, 0), (11, .getfield 22, 3, 1105),
  (14, .getfield 180, 3, 801), (17, .iload_n 1, 1, 0), (18, .aaload, 1, 0), (19, .astore_n 3, 1, 0), (20, .iload_n 2, 1, 0), (21, .tableswitch 58 0 3 #[31, 36, 41, 46], 31, 0), (52, .aload_n 3, 1, 0), (53, .getfield 184, 3, 401),
  (56, .ireturn, 1, 0), (57, .aload_n 3, 1, 0), (58, .getfield 189, 3, 402), (61, .ireturn, 1, 0), (62, .aload_n 3, 1, 0), (63, .getfield 192, 3, 403), (66, .ireturn, 1, 0), (67, .aload_n 0, 1, 0),
  (68, .getfield 74, 3, 1112), (71, .getfield 195, 3, 201), (74, .iload_n 1, 1, 0), (75, .ishr, 1, 0), (76, .iconst 1, 1, 0), (77, .iand, 1, 0), (78, .ireturn, 1, 0), (79, .iconst (-1), 1, 0),
  (80, .ireturn, 1, 0)]
def pT_73 : List pEn := [(0, .iload_n 1, 1, 0), (1, .ifCond .lt 18, 3, 0), (4, .iload_n 1, 1, 0), (5, .aload_n 0, 1, 0), (6, .getfield 22, 3, 1105), (9, .getfield 378, 3, 809), (12, .if_icmp .ge 7, 3, 0), (15, .iconst 1, 1, 0),
  (16, .goto 4, 3, 0), (19, .iconst 0, 1, 0), (20, .ireturn, 1, 0)]
def pT_74 : List pEn := [(0, .aload_n 0, 1, 0), (1, .iload_n 1, 1, 0), (2, .invokevirtual 198, 3, 75), (5, .ifCond .ne 5, 3, 0), (8, .iconst (-1), 1, 0), (9, .ireturn, 1, 0), (10, .iload_n 2, 1, 0), (11, .tableswitch 59 0 2 #[25, 35, 45], 25, 0),
  (36, .aload_n 0, 1, 0), (37, .getfield 22, 3, 1105), (40, .getfield 201, 3, 803), (43, .iload_n 1, 1, 0), (44, .iaload, 1, 0), (45, .ireturn, 1, 0), (46, .aload_n 0, 1, 0), (47, .getfield 22, 3, 1105),
  (50, .getfield 204, 3, 804), (53, .iload_n 1, 1, 0), (54, .iaload, 1, 0), (55, .ireturn, 1, 0), (56, .aload_n 0, 1, 0), (57, .getfield 74, 3, 1112), (60, .getfield 207, 3, 202), (63, .iconst 2, 1, 0),
  (64, .iload_n 1, 1, 0), (65, .imul, 1, 0), (66, .ishr, 1, 0), (67, .iconst 3, 1, 0), (68, .iand, 1, 0), (69, .ireturn, 1, 0), (70, .iconst (-1), 1, 0), (71, .ireturn, 1, 0)]
def pT_75 : List pEn := [(0, .iload_n 1, 1, 0), (1, .ifCond .lt 18, 3, 0), (4, .iload_n 1, 1, 0), (5, .aload_n 0, 1, 0), (6, .getfield 22, 3, 1105), (9, .getfield 379, 3, 810), (12, .if_icmp .ge 7, 3, 0), (15, .iconst 1, 1, 0),
  (16, .goto 4, 3, 0), (19, .iconst 0, 1, 0), (20, .ireturn, 1, 0)]
def pT_76 : List pEn := [(0, .aload_n 0, 1, 0), (1, .iload_n 1, 1, 0), (2, .invokevirtual 198, 3, 75), (5, .ifCond .eq 18, 3, 0), (8, .aload_n 0, 1, 0), (9, .iload_n 2, 1, 0), (10, .invokevirtual 137, 3, 77), (13, .ifCond .eq 10, 3, 0),
  (16, .iload_n 3, 1, 0), (17, .invokestatic 210, 3, 1078), (20, .ifCond .ne 5, 3, 0), (23, .iconst (-1), 1, 0), (24, .ireturn, 1, 0), (25, .aload_n 0, 1, 0), (26, .getfield 43, 3, 1107), (29, .iload_n 1, 1, 0),
  (30, .iload_n 2, 1, 0), (31, .iload_n 3, 1, 0), (32, .invokevirtual 213, 3, 79), (35, .ireturn, 1, 0)]
def pT_77 : List pEn := [(0, .iload_n 1, 1, 0), (1, .ifCond .lt 18, 3, 0), (4, .iload_n 1, 1, 0), (5, .aload_n 0, 1, 0), (6, .getfield 22, 3, 1105), (9, .getfield 313, 3, 808), (12, .if_icmp .ge 7, 3, 0), (15, .iconst 1, 1, 0),
  (16, .goto 4, 3, 0), (19, .iconst 0, 1, 0), (20, .ireturn, 1, 0)]
def pT_78 : List pEn := [(0, .iload_n 0, 1, 0), (1, .ifCond .lt 13, 3, 0), (4, .iload_n 0, 1, 0), (5, .bipush 24, 2, 0), (7, .if_icmp .ge 7, 3, 0), (10, .iconst 1, 1, 0), (11, .goto 4, 3, 0), (14, .iconst 0, 1, 0),
  (15, .ireturn, 1, 0)]
def pT_79 : List pEn := [(0, .iload_n 1, 1, 0), (1, .bipush 9, 2, 0), (3, .imul, 1, 0), (4, .iload_n 2, 1, 0), (5, .iadd, 1, 0), (6, .bipush 24, 2, 0), (8, .imul, 1, 0), (9, .iload_n 3, 1, 0),
  (10, .iadd, 1, 0), (11, .istore 4, 2, 0), (13, .aload_n 0, 1, 0), (14, .getfield 9, 3, 300), (17, .iload 4, 2, 0), (19, .iaload, 1, 0), (20, .iconst (-1), 1, 0), (21, .if_icmp .ne 81, 3, 0),
  (24, .aload_n 0, 1, 0), (25, .getfield 25, 3, 304), (28, .getfield 74, 3, 803), (31, .iload_n 1, 1, 0), (32, .iaload, 1, 0), (33, .istore 5, 2, 0), (35, .aload_n 0, 1, 0), (36, .aload_n 0, 1, 0),
  (37, .getfield 25, 3, 304), (40, .getfield 77, 3, 806), (43, .iload 5, 2, 0), (45, .iload_n 2, 1, 0), (46, .iload_n 3, 1, 0), (47, .invokevirtual 81, 3, 80), (50, .lstore 6, 2, 0), (52, .lload 6, 2, 0),
  (54, .ldc2_w 85, 3, 4), (57, .lcmp, 1, 0), (58, .ifCond .ne 24, 3, 0), (61, .iload 5, 2, 0), (63, .aload_n 0, 1, 0), (64, .getfield 25, 3, 304), (67, .getfield 40, 3, 800), (70, .iload_n 2, 1, 0),
  (71, .aaload, 1, 0), (72, .getfield 46, 3, 101), (75, .imul, 1, 0), (76, .bipush 10, 2, 0), (78, .idiv, 1, 0), (79, .i2l, 1, 0), (80, .lstore 6, 2, 0), (82, .aload_n 0, 1, 0),
  (83, .getfield 9, 3, 300), (86, .iload 4, 2, 0), (88, .lconst 0, 1, 0), (89, .ldc2_w 87, 3, 5), (92, .lload 6, 2, 0), (94, .invokestatic 89, 3, 1086), (97, .invokestatic 93, 3, 1087), (100, .l2i, 1, 0),
  (101, .iastore, 1, 0), (102, .aload_n 0, 1, 0), (103, .getfield 9, 3, 300), (106, .iload 4, 2, 0), (108, .iaload, 1, 0), (109, .ireturn, 1, 0)]
def pT_80 : List pEn := [(0, .aload_n 0, 1, 0), (1, .getfield 25, 3, 304), (4, .getfield 40, 3, 800), (7, .iload_n 3, 1, 0), (8, .aaload, 1, 0), (9, .astore 5, 2, 0), (11, .aload_n 0, 1, 0), (12, .getfield 18, 3, 302),
  (15, .iconst 0, 1, 0), (16, .iload_n 2, 1, 0), (17, .i2l, 1, 0), (18, .lastore, 1, 0), (19, .aload_n 0, 1, 0), (20, .getfield 18, 3, 302), (23, .iconst 1, 1, 0), (24, .aload 5, 2, 0),
  (26, .getfield 46, 3, 101), (29, .i2l, 1, 0), (30, .lastore, 1, 0), (31, .aload_n 0, 1, 0), (32, .getfield 18, 3, 302), (35, .iconst 2, 1, 0), (36, .aload_n 0, 1, 0), (37, .getfield 29, 3, 305),
  (40, .ifCond .eq 9, 3, 0), (43, .ldc2_w 51, 3, 0), (46, .goto 14, 3, 0), (49, .aload_n 0, 1, 0), (50, .getfield 25, 3, 304), (53, .getfield 53, 3, 805), (56, .iload 4, 2, 0), (58, .iaload, 1, 0),
  (59, .i2l, 1, 0), (60, .lastore, 1, 0), (61, .aload_n 0, 1, 0), (62, .getfield 18, 3, 302), (65, .iconst 3, 1, 0), (66, .iload 4, 2, 0), (68, .i2l, 1, 0), (69, .lastore, 1, 0),
  (70, .aload_n 0, 1, 0), (71, .getfield 18, 3, 302), (74, .iconst 4, 1, 0), (75, .aload_n 0, 1, 0), (76, .getfield 33, 3, 306), (79, .ifCond .eq 7, 3, 0), (82, .lconst 0, 1, 0), (83, .goto 12, 3, 0),
  (86, .aload 5, 2, 0), (88, .getfield 56, 3, 103), (91, .invokestatic 59, 3, 1081), (94, .i2l, 1, 0), (95, .lastore, 1, 0), (96, .aload_n 0, 1, 0), (97, .getfield 18, 3, 302), (100, .iconst 5, 1, 0),
  (101, .aload_n 0, 1, 0), (102, .getfield 25, 3, 304), (105, .iload_n 3, 1, 0), (106, .invokevirtual 65, 3, 82), (109, .i2l, 1, 0), (110, .lastore, 1, 0), (111, .aload_n 1, 1, 0), (112, .aload_n 0, 1, 0),
  (113, .getfield 18, 3, 302), (116, .aload_n 0, 1, 0), (117, .getfield 22, 3, 303), (120, .invokevirtual 68, 3, 84), (123, .lreturn, 1, 0)]
def pT_81 : List pEn := [(0, .iload_n 0, 1, 0), (1, .ifCond .ge 8, 3, 0), (4, .iload_n 0, 1, 0), (5, .ineg, 1, 0), (6, .goto 4, 3, 0), (9, .iload_n 0, 1, 0), (10, .ireturn, 1, 0)]
def pT_82 : List pEn := [(0, .iload_n 1, 1, 0), (1, .ifCond .le 11, 3, 0), (4, .iload_n 1, 1, 0), (5, .aload_n 0, 1, 0), (6, .getfield 51, 3, 808), (9, .if_icmp .lt 5, 3, 0), (12, .iconst 0, 1, 0), (13, .ireturn, 1, 0),
  (14, .iconst 0, 1, 0), (15, .aload_n 0, 1, 0), (16, .getfield 11, 3, 800), (19, .iload_n 1, 1, 0), (20, .aaload, 1, 0), (21, .getfield 89, 3, 101), (24, .aload_n 0, 1, 0), (25, .getfield 11, 3, 800),
  (28, .iload_n 1, 1, 0), (29, .iconst 1, 1, 0), (30, .isub, 1, 0), (31, .aaload, 1, 0), (32, .getfield 89, 3, 101), (35, .isub, 1, 0), (36, .invokestatic 92, 3, 1083), (39, .ireturn, 1, 0)]
def pT_83 : List pEn := [(0, .iload_n 0, 1, 0), (1, .iload_n 1, 1, 0), (2, .if_icmp .lt 7, 3, 0), (5, .iload_n 0, 1, 0), (6, .goto 4, 3, 0), (9, .iload_n 1, 1, 0), (10, .ireturn, 1, 0)]
def pT_84 : List pEn := [(0, .iconst 0, 1, 0), (1, .istore_n 3, 1, 0), (2, .iconst 0, 1, 0), (3, .istore 4, 2, 0), (5, .iload 4, 2, 0), (7, .aload_n 0, 1, 0), (8, .getfield 15, 3, 501), (11, .if_icmp .ge 153, 3, 0),
  (14, .aload_n 0, 1, 0), (15, .getfield 9, 3, 500), (18, .iload 4, 2, 0), (20, .iaload, 1, 0), (21, .ineg, 1, 0), (22, .istore 5, 2, 0), (24, .iload 5, 2, 0), (26, .ifCond .gt 16, 3, 0),
  (29, .aload_n 2, 1, 0), (30, .iload_n 3, 1, 0), (31, .iload 5, 2, 0), (33, .ineg, 1, 0), (34, .i2l, 1, 0), (35, .lastore, 1, 0), (36, .iinc 3 1, 3, 0), (39, .goto 119, 3, 0),
  (42, .iload 5, 2, 0), (44, .bipush 36, 2, 0), (46, .if_icmp .lt 26, 3, 0), (49, .iload 5, 2, 0), (51, .bipush 41, 2, 0), (53, .if_icmp .gt 19, 3, 0), (56, .aload_n 2, 1, 0), (57, .iload_n 3, 1, 0),
  (58, .aload_n 1, 1, 0), (59, .iload 5, 2, 0), (61, .bipush 36, 2, 0), (63, .isub, 1, 0), (64, .laload, 1, 0), (65, .lastore, 1, 0), (66, .iinc 3 1, 3, 0), (69, .goto 89, 3, 0),
  (72, .iload 5, 2, 0), (74, .bipush 35, 2, 0), (76, .if_icmp .ne 30, 3, 0), (79, .iload_n 3, 1, 0), (80, .ifCond .le 26, 3, 0), (83, .aload_n 2, 1, 0), (84, .iload_n 3, 1, 0), (85, .iconst 1, 1, 0),
  (86, .isub, 1, 0), (87, .aload_n 2, 1, 0), (88, .iload_n 3, 1, 0), (89, .iconst 1, 1, 0), (90, .isub, 1, 0), (91, .laload, 1, 0), (92, .lconst 0, 1, 0), (93, .lcmp, 1, 0),
  (94, .ifCond .ne 7, 3, 0), (97, .lconst 1, 1, 0), (98, .goto 4, 3, 0), (101, .lconst 0, 1, 0), (102, .lastore, 1, 0), (103, .goto 55, 3, 0), (106, .iload_n 3, 1, 0), (107, .iconst 1, 1, 0),
  (108, .if_icmp .le 50, 3, 0), (111, .iinc 3 (-1), 3, 0), (114, .iload 5, 2, 0), (116, .aload_n 2, 1, 0), (117, .iload_n 3, 1, 0), (118, .iconst 1, 1, 0), (119, .isub, 1, 0), (120, .laload, 1, 0),
  (121, .aload_n 2, 1, 0), (122, .iload_n 3, 1, 0), (123, .laload, 1, 0), (124, .invokestatic 19, 3, 1085), (127, .lstore 6, 2, 0), (129, .lload 6, 2, 0), (131, .ldc2_w 23, 3, 1), (134, .lcmp, 1, 0),
  (135, .ifCond .gt 12, 3, 0), (138, .lload 6, 2, 0), (140, .ldc2_w 25, 3, 3), (143, .lcmp, 1, 0), (144, .ifCond .ge 7, 3, 0), (147, .ldc2_w 27, 3, 2), (150, .lreturn, 1, 0), (151, .aload_n 2, 1, 0),
  (152, .iload_n 3, 1, 0), (153, .iconst 1, 1, 0), (154, .isub, 1, 0), (155, .lload 6, 2, 0), (157, .lastore, 1, 0), (158, .iinc 4 1, 3, 0), (161, .goto (-156), 3, 0), (164, .iload_n 3, 1, 0),
  (165, .iconst 1, 1, 0), (166, .if_icmp .ne 9, 3, 0), (169, .aload_n 2, 1, 0), (170, .iconst 0, 1, 0), (171, .laload, 1, 0), (172, .goto 6, 3, 0), (175, .ldc2_w 27, 3, 2), (178, .lreturn, 1, 0)]
def pT_85 : List pEn := [(0, .iload_n 0, 1, 0), (1, .tableswitch 301 8 34 #[123, 127, 131, 177, 193, 205, 217, 229, 241, 253, 301, 301, 301, 301, 301, 301, 301, 301, 301, 301, 301, 301, 301, 301, 301, 283, 265], 123, 0), (124, .lload_n 1, 1, 0), (125, .lload_n 3, 1, 0), (126, .ladd, 1, 0), (127, .lreturn, 1, 0), (128, .lload_n 1, 1, 0), (129, .lload_n 3, 1, 0),
  (130, .lsub, 1, 0), (131, .lreturn, 1, 0), (132, .lload_n 1, 1, 0), (133, .lconst 0, 1, 0), (134, .lcmp, 1, 0), (135, .ifCond .eq 39, 3, 0), (138, .lload_n 3, 1, 0), (139, .lconst 0, 1, 0),
  (140, .lcmp, 1, 0), (141, .ifCond .ge 8, 3, 0), (144, .lload_n 3, 1, 0), (145, .lneg, 1, 0), (146, .goto 4, 3, 0), (149, .lload_n 3, 1, 0), (150, .ldc2_w 23, 3, 1), (153, .lload_n 1, 1, 0),
  (154, .lconst 0, 1, 0), (155, .lcmp, 1, 0), (156, .ifCond .ge 8, 3, 0), (159, .lload_n 1, 1, 0), (160, .lneg, 1, 0), (161, .goto 4, 3, 0), (164, .lload_n 1, 1, 0), (165, .ldiv, 1, 0),
  (166, .lcmp, 1, 0), (167, .ifCond .le 7, 3, 0), (170, .ldc2_w 27, 3, 2), (173, .lreturn, 1, 0), (174, .lload_n 1, 1, 0), (175, .lload_n 3, 1, 0), (176, .lmul, 1, 0), (177, .lreturn, 1, 0),
  (178, .lload_n 3, 1, 0), (179, .lconst 0, 1, 0), (180, .lcmp, 1, 0), (181, .ifCond .ne 9, 3, 0), (184, .ldc2_w 27, 3, 2), (187, .goto 6, 3, 0), (190, .lload_n 1, 1, 0), (191, .lload_n 3, 1, 0),
  (192, .ldiv, 1, 0), (193, .lreturn, 1, 0), (194, .lload_n 1, 1, 0), (195, .lload_n 3, 1, 0), (196, .lcmp, 1, 0), (197, .ifCond .ge 7, 3, 0), (200, .lconst 1, 1, 0), (201, .goto 4, 3, 0),
  (204, .lconst 0, 1, 0), (205, .lreturn, 1, 0), (206, .lload_n 1, 1, 0), (207, .lload_n 3, 1, 0), (208, .lcmp, 1, 0), (209, .ifCond .gt 7, 3, 0), (212, .lconst 1, 1, 0), (213, .goto 4, 3, 0),
  (216, .lconst 0, 1, 0), (217, .lreturn, 1, 0), (218, .lload_n 1, 1, 0), (219, .lload_n 3, 1, 0), (220, .lcmp, 1, 0), (221, .ifCond .ne 7, 3, 0), (224, .lconst 1, 1, 0), (225, .goto 4, 3, 0),
  (228, .lconst 0, 1, 0), (229, .lreturn, 1, 0), (230, .lload_n 1, 1, 0), (231, .lload_n 3, 1, 0), (232, .lcmp, 1, 0), (233, .ifCond .eq 7, 3, 0), (236, .lconst 1, 1, 0), (237, .goto 4, 3, 0),
  (240, .lconst 0, 1, 0), (241, .lreturn, 1, 0), (242, .lload_n 1, 1, 0), (243, .lload_n 3, 1, 0), (244, .lcmp, 1, 0), (245, .ifCond .lt 7, 3, 0), (248, .lconst 1, 1, 0), (249, .goto 4, 3, 0),
  (252, .lconst 0, 1, 0), (253, .lreturn, 1, 0), (254, .lload_n 1, 1, 0), (255, .lload_n 3, 1, 0), (256, .lcmp, 1, 0), (257, .ifCond .le 7, 3, 0), (260, .lconst 1, 1, 0), (261, .goto 4, 3, 0),
  (264, .lconst 0, 1, 0), (265, .lreturn, 1, 0), (266, .lload_n 1, 1, 0), (267, .lconst 0, 1, 0), (268, .lcmp, 1, 0), (269, .ifCond .eq 13, 3, 0), (272, .lload_n 3, 1, 0), (273, .lconst 0, 1, 0),
  (274, .lcmp, 1, 0), (275, .ifCond .eq 7, 3, 0), (278, .lconst 1, 1, 0), (279, .goto 4, 3, 0), (282, .lconst 0, 1, 0), (283, .lreturn, 1, 0), (284, .lload_n 1, 1, 0), (285, .lconst 0, 1, 0),
  (286, .lcmp, 1, 0), (287, .ifCond .ne 9, 3, 0), (290, .lload_n 3, 1, 0), (291, .lconst 0, 1, 0), (292, .lcmp, 1, 0), (293, .ifCond .eq 7, 3, 0), (296, .lconst 1, 1, 0), (297, .goto 4, 3, 0),
  (300, .lconst 0, 1, 0), (301, .lreturn, 1, 0), (302, .ldc2_w 27, 3, 2), (305, .lreturn, 1, 0)]
def pT_86 : List pEn := [(0, .lload_n 0, 1, 0), (1, .lload_n 2, 1, 0), (2, .lcmp, 1, 0), (3, .ifCond .gt 7, 3, 0), (6, .lload_n 0, 1, 0), (7, .goto 4, 3, 0), (10, .lload_n 2, 1, 0), (11, .lreturn, 1, 0)]
def pT_87 : List pEn := [(0, .lload_n 0, 1, 0), (1, .lload_n 2, 1, 0), (2, .lcmp, 1, 0), (3, .ifCond .lt 7, 3, 0), (6, .lload_n 0, 1, 0), (7, .goto 4, 3, 0), (10, .lload_n 2, 1, 0), (11, .lreturn, 1, 0)]
def pT_88 : List pEn := [(0, .iload_n 1, 1, 0), (1, .ifCond .eq 18, 3, 0), (4, .aload_n 0, 1, 0), (5, .iload_n 1, 1, 0), (6, .invokevirtual 137, 3, 77), (9, .ifCond .eq 10, 3, 0), (12, .iload_n 2, 1, 0), (13, .invokestatic 210, 3, 1078),
  (16, .ifCond .ne 5, 3, 0), (19, .iconst (-1), 1, 0), (20, .ireturn, 1, 0), (21, .aload_n 0, 1, 0), (22, .getfield 43, 3, 1107), (25, .iload_n 1, 1, 0), (26, .iload_n 2, 1, 0), (27, .invokevirtual 217, 3, 89),
  (30, .ireturn, 1, 0)]
def pT_89 : List pEn := [(0, .iload_n 1, 1, 0), (1, .bipush 24, 2, 0), (3, .imul, 1, 0), (4, .iload_n 2, 1, 0), (5, .iadd, 1, 0), (6, .istore_n 3, 1, 0), (7, .aload_n 0, 1, 0), (8, .getfield 15, 3, 301),
  (11, .iload_n 3, 1, 0), (12, .iaload, 1, 0), (13, .iconst (-1), 1, 0), (14, .if_icmp .ne 78, 3, 0), (17, .aload_n 0, 1, 0), (18, .getfield 25, 3, 304), (21, .getfield 96, 3, 811), (24, .aload_n 0, 1, 0),
  (25, .getfield 36, 3, 307), (28, .imul, 1, 0), (29, .istore 4, 2, 0), (31, .aload_n 0, 1, 0), (32, .aload_n 0, 1, 0), (33, .getfield 25, 3, 304), (36, .getfield 99, 3, 807), (39, .iload 4, 2, 0),
  (41, .iload_n 1, 1, 0), (42, .iload_n 2, 1, 0), (43, .invokevirtual 81, 3, 80), (46, .lstore 5, 2, 0), (48, .lload 5, 2, 0), (50, .ldc2_w 85, 3, 4), (53, .lcmp, 1, 0), (54, .ifCond .ne 19, 3, 0),
  (57, .iload 4, 2, 0), (59, .aload_n 0, 1, 0), (60, .getfield 25, 3, 304), (63, .iload_n 1, 1, 0), (64, .invokevirtual 65, 3, 82), (67, .iconst 2, 1, 0), (68, .idiv, 1, 0), (69, .isub, 1, 0),
  (70, .i2l, 1, 0), (71, .lstore 5, 2, 0), (73, .aload_n 0, 1, 0), (74, .getfield 15, 3, 301), (77, .iload_n 3, 1, 0), (78, .lconst 0, 1, 0), (79, .ldc2_w 102, 3, 6), (82, .lload 5, 2, 0),
  (84, .invokestatic 89, 3, 1086), (87, .invokestatic 93, 3, 1087), (90, .l2i, 1, 0), (91, .iastore, 1, 0), (92, .aload_n 0, 1, 0), (93, .getfield 15, 3, 301), (96, .iload_n 3, 1, 0), (97, .iaload, 1, 0),
  (98, .ireturn, 1, 0)]
def pT_90 : List pEn := [(0, .aload_n 0, 1, 0), (1, .iload_n 1, 1, 0), (2, .invokevirtual 137, 3, 77), (5, .ifCond .eq 10, 3, 0), (8, .iload_n 2, 1, 0), (9, .invokestatic 210, 3, 1078), (12, .ifCond .ne 6, 3, 0), (15, .ldc 223, 2, 2),
  (17, .ireturn, 1, 0), (18, .aload_n 0, 1, 0), (19, .getfield 74, 3, 1112), (22, .aload_n 0, 1, 0), (23, .getfield 22, 3, 1105), (26, .invokevirtual 224, 3, 91), (29, .aload_n 0, 1, 0), (30, .getfield 43, 3, 1107),
  (33, .aload_n 0, 1, 0), (34, .getfield 74, 3, 1112), (37, .getfield 207, 3, 202), (40, .iload_n 1, 1, 0), (41, .iload_n 2, 1, 0), (42, .invokevirtual 228, 3, 93), (45, .isub, 1, 0), (46, .ireturn, 1, 0)]
def pT_91 : List pEn := [(0, .aload_n 1, 1, 0), (1, .aload_n 0, 1, 0), (2, .getfield 15, 3, 201), (5, .invokevirtual 61, 3, 92), (8, .aload_n 0, 1, 0), (9, .getfield 22, 3, 203), (12, .aload_n 1, 1, 0), (13, .getfield 65, 3, 814),
  (16, .imul, 1, 0), (17, .iadd, 1, 0), (18, .ireturn, 1, 0)]
def pT_92 : List pEn := [(0, .iconst 0, 1, 0), (1, .istore_n 2, 1, 0), (2, .iconst 0, 1, 0), (3, .istore_n 3, 1, 0), (4, .iload_n 3, 1, 0), (5, .aload_n 0, 1, 0), (6, .getfield 55, 3, 809), (9, .if_icmp .ge 30, 3, 0),
  (12, .iload_n 1, 1, 0), (13, .iload_n 3, 1, 0), (14, .ishr, 1, 0), (15, .iconst 1, 1, 0), (16, .iand, 1, 0), (17, .iconst 1, 1, 0), (18, .if_icmp .ne 15, 3, 0), (21, .iload_n 2, 1, 0),
  (22, .aload_n 0, 1, 0), (23, .getfield 19, 3, 801), (26, .iload_n 3, 1, 0), (27, .aaload, 1, 0), (28, .getfield 98, 3, 401), (31, .iadd, 1, 0), (32, .istore_n 2, 1, 0), (33, .iinc 3 1, 3, 0),
  (36, .goto (-32), 3, 0), (39, .iload_n 2, 1, 0), (40, .ireturn, 1, 0)]
def pT_93 : List pEn := [(0, .iconst 0, 1, 0), (1, .istore 4, 2, 0), (3, .iconst 0, 1, 0), (4, .istore 5, 2, 0), (6, .iload 5, 2, 0), (8, .aload_n 0, 1, 0), (9, .getfield 25, 3, 304), (12, .getfield 104, 3, 810),
  (15, .if_icmp .ge 40, 3, 0), (18, .iload_n 1, 1, 0), (19, .iconst 2, 1, 0), (20, .iload 5, 2, 0), (22, .imul, 1, 0), (23, .ishr, 1, 0), (24, .iconst 3, 1, 0), (25, .iand, 1, 0),
  (26, .istore 6, 2, 0), (28, .iload 6, 2, 0), (30, .ifCond .le 19, 3, 0), (33, .iload 4, 2, 0), (35, .iload 6, 2, 0), (37, .aload_n 0, 1, 0), (38, .iload 5, 2, 0), (40, .iload_n 2, 1, 0),
  (41, .iload_n 3, 1, 0), (42, .invokevirtual 107, 3, 79), (45, .imul, 1, 0), (46, .iadd, 1, 0), (47, .istore 4, 2, 0), (49, .iinc 5 1, 3, 0), (52, .goto (-46), 3, 0), (55, .iload 4, 2, 0),
  (57, .ireturn, 1, 0)]
def pT_94 : List pEn := [(0, .aload_n 0, 1, 0), (1, .iload_n 3, 1, 0), (2, .invokevirtual 137, 3, 77), (5, .ifCond .eq 11, 3, 0), (8, .iload 4, 2, 0), (10, .invokestatic 210, 3, 1078), (13, .ifCond .ne 7, 3, 0), (16, .ldc2_w 231, 3, 7),
  (19, .lreturn, 1, 0), (20, .iload_n 1, 1, 0), (21, .ifCond .ne 51, 3, 0), (24, .aload_n 0, 1, 0), (25, .iload_n 2, 1, 0), (26, .invokevirtual 198, 3, 75), (29, .ifCond .eq 43, 3, 0), (32, .aload_n 0, 1, 0),
  (33, .getfield 22, 3, 1105), (36, .getfield 233, 3, 806), (39, .invokevirtual 237, 3, 61), (42, .ifCond .eq 30, 3, 0), (45, .aload_n 0, 1, 0), (46, .getfield 43, 3, 1107), (49, .aload_n 0, 1, 0), (50, .getfield 22, 3, 1105),
  (53, .getfield 233, 3, 806), (56, .aload_n 0, 1, 0), (57, .getfield 22, 3, 1105), (60, .getfield 201, 3, 803), (63, .iload_n 2, 1, 0), (64, .iaload, 1, 0), (65, .iload_n 3, 1, 0), (66, .iload 4, 2, 0),
  (68, .invokevirtual 243, 3, 80), (71, .lreturn, 1, 0), (72, .iload_n 1, 1, 0), (73, .iconst 1, 1, 0), (74, .if_icmp .ne 45, 3, 0), (77, .iload_n 3, 1, 0), (78, .ifCond .le 41, 3, 0), (81, .aload_n 0, 1, 0),
  (82, .getfield 22, 3, 1105), (85, .getfield 247, 3, 807), (88, .invokevirtual 237, 3, 61), (91, .ifCond .eq 28, 3, 0), (94, .aload_n 0, 1, 0), (95, .getfield 43, 3, 1107), (98, .aload_n 0, 1, 0), (99, .getfield 22, 3, 1105),
  (102, .getfield 247, 3, 807), (105, .aload_n 0, 1, 0), (106, .getfield 22, 3, 1105), (109, .getfield 250, 3, 811), (112, .iload_n 3, 1, 0), (113, .iload 4, 2, 0), (115, .invokevirtual 243, 3, 80), (118, .lreturn, 1, 0),
  (119, .ldc2_w 231, 3, 7), (122, .lreturn, 1, 0)]
def pT_95 : List pEn := [(0, .aload_n 0, 1, 0), (1, .iload_n 1, 1, 0), (2, .invokevirtual 177, 3, 73), (5, .ifCond .eq 34, 3, 0), (8, .aload_n 0, 1, 0), (9, .invokevirtual 253, 3, 96), (12, .ifCond .eq 27, 3, 0), (15, .iload_n 2, 1, 0),
  (16, .aload_n 0, 1, 0), (17, .getfield 74, 3, 1112), (20, .getfield 195, 3, 201), (23, .iload_n 1, 1, 0), (24, .ishr, 1, 0), (25, .iconst 1, 1, 0), (26, .iand, 1, 0), (27, .iconst 1, 1, 0),
  (28, .if_icmp .ne 7, 3, 0), (31, .iconst 1, 1, 0), (32, .goto 4, 3, 0), (35, .iconst 0, 1, 0), (36, .if_icmp .ne 5, 3, 0), (39, .iconst 0, 1, 0), (40, .ireturn, 1, 0), (41, .aload_n 0, 1, 0),
  (42, .invokevirtual 256, 3, 97), (45, .aload_n 0, 1, 0), (46, .getfield 74, 3, 1112), (49, .dup, 1, 0), (50, .getfield 195, 3, 201), (53, .iconst 1, 1, 0), (54, .iload_n 1, 1, 0), (55, .ishl, 1, 0),
  (56, .ixor, 1, 0), (57, .putfield 195, 3, 201), (60, .iconst 1, 1, 0), (61, .ireturn, 1, 0)]
def pT_96 : List pEn := [(0, .aload_n 0, 1, 0), (1, .getfield 74, 3, 1112), (4, .getfield 275, 3, 204), (7, .ifCond .ne 18, 3, 0), (10, .aload_n 0, 1, 0), (11, .getfield 74, 3, 1112), (14, .getfield 272, 3, 206), (17, .iconst 3, 1, 0),
  (18, .if_icmp .eq 7, 3, 0), (21, .iconst 1, 1, 0), (22, .goto 4, 3, 0), (25, .iconst 0, 1, 0), (26, .ireturn, 1, 0)]
def pT_97 : List pEn := [(0, .aload_n 0, 1, 0), (1, .getfield 105, 3, 1118), (4, .bipush 20, 2, 0), (6, .if_icmp .ne 28, 3, 0), (9, .aload_n 0, 1, 0), (10, .getfield 84, 3, 1117), (13, .iconst 5, 1, 0), (14, .aload_n 0, 1, 0),
  (15, .getfield 84, 3, 1117), (18, .iconst 0, 1, 0), (19, .bipush 95, 2, 0), (21, .invokestatic 369, 3, 5000), (24, .aload_n 0, 1, 0), (25, .dup, 1, 0), (26, .getfield 105, 3, 1118), (29, .iconst 1, 1, 0),
  (30, .isub, 1, 0), (31, .putfield 105, 3, 1118), (34, .aload_n 0, 1, 0), (35, .getfield 105, 3, 1118), (38, .iconst 5, 1, 0), (39, .imul, 1, 0), (40, .istore_n 1, 1, 0), (41, .aload_n 0, 1, 0),
  (42, .getfield 84, 3, 1117), (45, .iload_n 1, 1, 0), (46, .aload_n 0, 1, 0), (47, .getfield 74, 3, 1112), (50, .getfield 195, 3, 201), (53, .iastore, 1, 0), (54, .aload_n 0, 1, 0), (55, .getfield 84, 3, 1117),
  (58, .iload_n 1, 1, 0), (59, .iconst 1, 1, 0), (60, .iadd, 1, 0), (61, .aload_n 0, 1, 0), (62, .getfield 74, 3, 1112), (65, .getfield 207, 3, 202), (68, .iastore, 1, 0), (69, .aload_n 0, 1, 0),
  (70, .getfield 84, 3, 1117), (73, .iload_n 1, 1, 0), (74, .iconst 2, 1, 0), (75, .iadd, 1, 0), (76, .aload_n 0, 1, 0), (77, .getfield 74, 3, 1112), (80, .getfield 259, 3, 203), (83, .iastore, 1, 0),
  (84, .aload_n 0, 1, 0), (85, .getfield 84, 3, 1117), (88, .iload_n 1, 1, 0), (89, .iconst 3, 1, 0), (90, .iadd, 1, 0), (91, .aload_n 0, 1, 0), (92, .getfield 74, 3, 1112), (95, .getfield 262, 3, 205),
  (98, .iastore, 1, 0), (99, .aload_n 0, 1, 0), (100, .getfield 84, 3, 1117), (103, .iload_n 1, 1, 0), (104, .iconst 4, 1, 0), (105, .iadd, 1, 0), (106, .aload_n 0, 1, 0), (107, .getfield 74, 3, 1112),
  (110, .getfield 163, 3, 200), (113, .aload_n 0, 1, 0), (114, .getfield 74, 3, 1112), (117, .getfield 275, 3, 204), (120, .iaload, 1, 0), (121, .iastore, 1, 0), (122, .aload_n 0, 1, 0), (123, .dup, 1, 0),
  (124, .getfield 105, 3, 1118), (127, .iconst 1, 1, 0), (128, .iadd, 1, 0), (129, .putfield 105, 3, 1118), (132, .return_, 1, 0)]
def pT_98 : List pEn := [(0, .aload_n 0, 1, 0), (1, .iload_n 1, 1, 0), (2, .invokevirtual 198, 3, 75), (5, .ifCond .eq 27, 3, 0), (8, .aload_n 0, 1, 0), (9, .invokevirtual 253, 3, 96), (12, .ifCond .eq 20, 3, 0), (15, .iload_n 2, 1, 0),
  (16, .ifCond .lt 16, 3, 0), (19, .iload_n 2, 1, 0), (20, .aload_n 0, 1, 0), (21, .getfield 22, 3, 1105), (24, .getfield 204, 3, 804), (27, .iload_n 1, 1, 0), (28, .iaload, 1, 0), (29, .if_icmp .le 5, 3, 0),
  (32, .iconst 0, 1, 0), (33, .ireturn, 1, 0), (34, .aload_n 0, 1, 0), (35, .getfield 74, 3, 1112), (38, .getfield 207, 3, 202), (41, .iconst 2, 1, 0), (42, .iload_n 1, 1, 0), (43, .imul, 1, 0),
  (44, .ishr, 1, 0), (45, .iconst 3, 1, 0), (46, .iand, 1, 0), (47, .istore_n 3, 1, 0), (48, .iload_n 2, 1, 0), (49, .iload_n 3, 1, 0), (50, .if_icmp .ne 5, 3, 0), (53, .iconst 0, 1, 0),
  (54, .ireturn, 1, 0), (55, .aload_n 0, 1, 0), (56, .invokevirtual 256, 3, 97), (59, .aload_n 0, 1, 0), (60, .getfield 74, 3, 1112), (63, .dup, 1, 0), (64, .getfield 207, 3, 202), (67, .iload_n 2, 1, 0),
  (68, .iload_n 3, 1, 0), (69, .isub, 1, 0), (70, .iconst 2, 1, 0), (71, .iload_n 1, 1, 0), (72, .imul, 1, 0), (73, .ishl, 1, 0), (74, .iadd, 1, 0), (75, .putfield 207, 3, 202),
  (78, .iconst 1, 1, 0), (79, .ireturn, 1, 0)]
def pT_99 : List pEn := [(0, .iload_n 1, 1, 0), (1, .ifCond .lt 27, 3, 0), (4, .iload_n 1, 1, 0), (5, .bipush 9, 2, 0), (7, .if_icmp .gt 21, 3, 0), (10, .aload_n 0, 1, 0), (11, .invokevirtual 253, 3, 96), (14, .ifCond .eq 14, 3, 0),
  (17, .iload_n 1, 1, 0), (18, .aload_n 0, 1, 0), (19, .getfield 74, 3, 1112), (22, .getfield 259, 3, 203), (25, .if_icmp .ne 5, 3, 0), (28, .iconst 0, 1, 0), (29, .ireturn, 1, 0), (30, .aload_n 0, 1, 0),
  (31, .invokevirtual 256, 3, 97), (34, .aload_n 0, 1, 0), (35, .getfield 74, 3, 1112), (38, .iload_n 1, 1, 0), (39, .putfield 259, 3, 203), (42, .iconst 1, 1, 0), (43, .ireturn, 1, 0)]
def pT_100 : List pEn := [(0, .iload_n 1, 1, 0), (1, .invokestatic 210, 3, 1078), (4, .ifCond .eq 21, 3, 0), (7, .aload_n 0, 1, 0), (8, .invokevirtual 253, 3, 96), (11, .ifCond .eq 14, 3, 0), (14, .iload_n 1, 1, 0), (15, .aload_n 0, 1, 0),
  (16, .getfield 74, 3, 1112), (19, .getfield 262, 3, 205), (22, .if_icmp .ne 5, 3, 0), (25, .iconst 0, 1, 0), (26, .ireturn, 1, 0), (27, .aload_n 0, 1, 0), (28, .invokevirtual 256, 3, 97), (31, .aload_n 0, 1, 0),
  (32, .getfield 74, 3, 1112), (35, .iload_n 1, 1, 0), (36, .putfield 262, 3, 205), (39, .iconst 1, 1, 0), (40, .ireturn, 1, 0)]
def pT_101 : List pEn := [(0, .iload_n 1, 1, 0), (1, .ifCond .lt 16, 3, 0), (4, .iload_n 1, 1, 0), (5, .bipush 50, 2, 0), (7, .if_icmp .gt 10, 3, 0), (10, .aload_n 0, 1, 0), (11, .invokevirtual 265, 3, 102), (14, .ifCond .ne 5, 3, 0),
  (17, .iconst (-1), 1, 0), (18, .ireturn, 1, 0), (19, .iload_n 1, 1, 0), (20, .ifCond .le 8, 3, 0), (23, .aload_n 0, 1, 0), (24, .iconst 0, 1, 0), (25, .putfield 105, 3, 1118), (28, .iconst 0, 1, 0),
  (29, .istore_n 2, 1, 0), (30, .iload_n 2, 1, 0), (31, .iload_n 1, 1, 0), (32, .if_icmp .ge 24, 3, 0), (35, .aload_n 0, 1, 0), (36, .getfield 74, 3, 1112), (39, .aload_n 0, 1, 0), (40, .getfield 22, 3, 1105),
  (43, .aload_n 0, 1, 0), (44, .getfield 43, 3, 1107), (47, .invokevirtual 268, 3, 103), (50, .iinc 2 1, 3, 0), (53, .goto (-23), 3, 0), (56, .aload_n 0, 1, 0), (57, .getfield 74, 3, 1112), (60, .getfield 272, 3, 206),
  (63, .iconst 3, 1, 0), (64, .if_icmp .ne 8, 3, 0), (67, .bipush (-2), 2, 0), (69, .goto 10, 3, 0), (72, .aload_n 0, 1, 0), (73, .getfield 74, 3, 1112), (76, .getfield 275, 3, 204), (79, .ireturn, 1, 0)]
def pT_102 : List pEn := [(0, .aload_n 0, 1, 0), (1, .getfield 22, 3, 1105), (4, .getfield 313, 3, 808), (7, .iconst 2, 1, 0), (8, .if_icmp .lt 7, 3, 0), (11, .iconst 1, 1, 0), (12, .goto 4, 3, 0), (15, .iconst 0, 1, 0),
  (16, .ireturn, 1, 0)]
def pT_103 : List pEn := [(0, .aload_n 0, 1, 0), (1, .getfield 25, 3, 204), (4, .iconst 1, 1, 0), (5, .iadd, 1, 0), (6, .istore_n 3, 1, 0), (7, .aload_n 0, 1, 0), (8, .getfield 31, 3, 206), (11, .ifCond .ne 11, 3, 0),
  (14, .iload_n 3, 1, 0), (15, .aload_n 1, 1, 0), (16, .getfield 43, 3, 808), (19, .if_icmp .lt 4, 3, 0), (22, .return_, 1, 0), (23, .aload_n 0, 1, 0), (24, .aload_n 1, 1, 0), (25, .invokevirtual 68, 3, 91),
  (28, .istore 4, 2, 0), (30, .iload 4, 2, 0), (32, .aload_n 2, 1, 0), (33, .aload_n 0, 1, 0), (34, .getfield 19, 3, 202), (37, .aload_n 0, 1, 0), (38, .getfield 25, 3, 204), (41, .aload_n 0, 1, 0),
  (42, .getfield 28, 3, 205), (45, .invokevirtual 72, 3, 93), (48, .isub, 1, 0), (49, .aload_n 1, 1, 0), (50, .getfield 78, 3, 812), (53, .ineg, 1, 0), (54, .if_icmp .ge 9, 3, 0), (57, .aload_n 0, 1, 0),
  (58, .iconst 3, 1, 0), (59, .putfield 31, 3, 206), (62, .return_, 1, 0), (63, .aload_n 0, 1, 0), (64, .aload_n 0, 1, 0), (65, .getfield 28, 3, 205), (68, .iconst 1, 1, 0), (69, .iadd, 1, 0),
  (70, .bipush 24, 2, 0), (72, .irem, 1, 0), (73, .putfield 28, 3, 205), (76, .iload 4, 2, 0), (78, .aload_n 2, 1, 0), (79, .aload_n 0, 1, 0), (80, .getfield 19, 3, 202), (83, .iload_n 3, 1, 0),
  (84, .aload_n 0, 1, 0), (85, .getfield 28, 3, 205), (88, .invokevirtual 72, 3, 93), (91, .isub, 1, 0), (92, .istore 5, 2, 0), (94, .iload 5, 2, 0), (96, .aload_n 2, 1, 0), (97, .iload_n 3, 1, 0),
  (98, .aload_n 0, 1, 0), (99, .getfield 28, 3, 205), (102, .invokevirtual 81, 3, 89), (105, .if_icmp .le 4, 3, 0), (108, .return_, 1, 0), (109, .aload_n 0, 1, 0), (110, .iload_n 3, 1, 0), (111, .putfield 25, 3, 204),
  (114, .iload 5, 2, 0), (116, .aload_n 1, 1, 0), (117, .getfield 78, 3, 812), (120, .ineg, 1, 0), (121, .if_icmp .ge 9, 3, 0), (124, .aload_n 0, 1, 0), (125, .iconst 3, 1, 0), (126, .putfield 31, 3, 206),
  (129, .return_, 1, 0), (130, .aload_n 0, 1, 0), (131, .aload_n 1, 1, 0), (132, .getfield 46, 3, 800), (135, .iload_n 3, 1, 0), (136, .aaload, 1, 0), (137, .getfield 85, 3, 105), (140, .invokevirtual 88, 3, 104),
  (143, .iload_n 3, 1, 0), (144, .aload_n 1, 1, 0), (145, .getfield 43, 3, 808), (148, .iconst 1, 1, 0), (149, .isub, 1, 0), (150, .if_icmp .ne 8, 3, 0), (153, .aload_n 0, 1, 0), (154, .iconst 1, 1, 0),
  (155, .putfield 31, 3, 206), (158, .return_, 1, 0)]
def pT_104 : List pEn := [(0, .iload_n 1, 1, 0), (1, .ifCond .ne 4, 3, 0), (4, .return_, 1, 0), (5, .aload_n 0, 1, 0), (6, .aload_n 0, 1, 0), (7, .getfield 39, 3, 207), (10, .ldc2_w 92, 3, 8), (13, .lmul, 1, 0),
  (14, .ldc2_w 94, 3, 9), (17, .ladd, 1, 0), (18, .ldc2_w 96, 3, 10), (21, .land, 1, 0), (22, .putfield 39, 3, 207), (25, .aload_n 0, 1, 0), (26, .getfield 39, 3, 207), (29, .ldc2_w 98, 3, 11),
  (32, .ldiv, 1, 0), (33, .ldc2_w 100, 3, 12), (36, .lrem, 1, 0), (37, .iload_n 1, 1, 0), (38, .i2l, 1, 0), (39, .lcmp, 1, 0), (40, .ifCond .lt 4, 3, 0), (43, .return_, 1, 0),
  (44, .iconst 0, 1, 0), (45, .istore_n 2, 1, 0), (46, .iload_n 2, 1, 0), (47, .iconst 3, 1, 0), (48, .if_icmp .ge 37, 3, 0), (51, .aload_n 0, 1, 0), (52, .getfield 19, 3, 202), (55, .iconst 2, 1, 0),
  (56, .iload_n 2, 1, 0), (57, .imul, 1, 0), (58, .ishr, 1, 0), (59, .iconst 3, 1, 0), (60, .iand, 1, 0), (61, .ifCond .le 18, 3, 0), (64, .aload_n 0, 1, 0), (65, .dup, 1, 0),
  (66, .getfield 19, 3, 202), (69, .iconst 1, 1, 0), (70, .iconst 2, 1, 0), (71, .iload_n 2, 1, 0), (72, .imul, 1, 0), (73, .ishl, 1, 0), (74, .isub, 1, 0), (75, .putfield 19, 3, 202),
  (78, .return_, 1, 0), (79, .iinc 2 1, 3, 0), (82, .goto (-36), 3, 0), (85, .return_, 1, 0)]
def pT_105 : List pEn := [(0, .iload_n 1, 1, 0), (1, .bipush (-9), 2, 0), (3, .if_icmp .lt 13, 3, 0), (6, .iload_n 1, 1, 0), (7, .bipush 9, 2, 0), (9, .if_icmp .gt 7, 3, 0), (12, .iload_n 1, 1, 0), (13, .ifCond .ne 5, 3, 0),
  (16, .iconst (-1), 1, 0), (17, .ireturn, 1, 0), (18, .aload_n 0, 1, 0), (19, .getfield 74, 3, 1112), (22, .getfield 275, 3, 204), (25, .ifCond .eq 13, 3, 0), (28, .aload_n 0, 1, 0), (29, .getfield 74, 3, 1112),
  (32, .getfield 272, 3, 206), (35, .ifCond .eq 5, 3, 0), (38, .iconst (-1), 1, 0), (39, .ireturn, 1, 0), (40, .aload_n 0, 1, 0), (41, .getfield 74, 3, 1112), (44, .getfield 259, 3, 203), (47, .iload_n 1, 1, 0),
  (48, .iadd, 1, 0), (49, .istore_n 2, 1, 0), (50, .iload_n 1, 1, 0), (51, .aload_n 0, 1, 0), (52, .getfield 74, 3, 1112), (55, .getfield 163, 3, 200), (58, .aload_n 0, 1, 0), (59, .getfield 74, 3, 1112),
  (62, .getfield 275, 3, 204), (65, .iaload, 1, 0), (66, .if_icmp .gt 13, 3, 0), (69, .iload_n 2, 1, 0), (70, .bipush 9, 2, 0), (72, .if_icmp .gt 7, 3, 0), (75, .iload_n 2, 1, 0), (76, .ifCond .ge 5, 3, 0),
  (79, .iconst (-1), 1, 0), (80, .ireturn, 1, 0), (81, .aload_n 0, 1, 0), (82, .invokevirtual 256, 3, 97), (85, .aload_n 0, 1, 0), (86, .getfield 74, 3, 1112), (89, .iload_n 2, 1, 0), (90, .putfield 259, 3, 203),
  (93, .aload_n 0, 1, 0), (94, .getfield 74, 3, 1112), (97, .getfield 163, 3, 200), (100, .aload_n 0, 1, 0), (101, .getfield 74, 3, 1112), (104, .getfield 275, 3, 204), (107, .bipush 99, 2, 0), (109, .aload_n 0, 1, 0),
  (110, .getfield 74, 3, 1112), (113, .getfield 163, 3, 200), (116, .aload_n 0, 1, 0), (117, .getfield 74, 3, 1112), (120, .getfield 275, 3, 204), (123, .iaload, 1, 0), (124, .iload_n 1, 1, 0), (125, .isub, 1, 0),
  (126, .invokestatic 278, 3, 1030), (129, .iastore, 1, 0), (130, .iload_n 2, 1, 0), (131, .ireturn, 1, 0)]
def pT_106 : List pEn := [(0, .iload_n 1, 1, 0), (1, .invokestatic 210, 3, 1078), (4, .ifCond .eq 19, 3, 0), (7, .iload_n 2, 1, 0), (8, .ifCond .lt 15, 3, 0), (11, .iload_n 2, 1, 0), (12, .iconst 1, 1, 0), (13, .if_icmp .gt 10, 3, 0),
  (16, .aload_n 0, 1, 0), (17, .invokevirtual 265, 3, 102), (20, .ifCond .ne 5, 3, 0), (23, .iconst (-1), 1, 0), (24, .ireturn, 1, 0), (25, .aload_n 0, 1, 0), (26, .getfield 43, 3, 1107), (29, .iload_n 1, 1, 0),
  (30, .aload_n 0, 1, 0), (31, .getfield 74, 3, 1112), (34, .aload_n 0, 1, 0), (35, .getfield 22, 3, 1105), (38, .invokevirtual 224, 3, 91), (41, .aload_n 0, 1, 0), (42, .getfield 74, 3, 1112), (45, .getfield 207, 3, 202),
  (48, .invokevirtual 283, 3, 107), (51, .istore_n 3, 1, 0), (52, .iload_n 2, 1, 0), (53, .ifCond .ne 9, 3, 0), (56, .iload_n 3, 1, 0), (57, .iconst 2, 1, 0), (58, .ishr, 1, 0), (59, .goto 6, 3, 0),
  (62, .iload_n 3, 1, 0), (63, .iconst 3, 1, 0), (64, .iand, 1, 0), (65, .ireturn, 1, 0)]
def pT_107 : List pEn := [(0, .iload_n 2, 1, 0), (1, .aload_n 0, 1, 0), (2, .iload_n 3, 1, 0), (3, .iconst 0, 1, 0), (4, .iload_n 1, 1, 0), (5, .invokevirtual 111, 3, 93), (8, .isub, 1, 0), (9, .aload_n 0, 1, 0),
  (10, .getfield 25, 3, 304), (13, .getfield 114, 3, 812), (16, .ineg, 1, 0), (17, .if_icmp .ge 5, 3, 0), (20, .iconst 3, 1, 0), (21, .ireturn, 1, 0), (22, .iconst 1, 1, 0), (23, .istore 4, 2, 0),
  (25, .iload 4, 2, 0), (27, .aload_n 0, 1, 0), (28, .getfield 25, 3, 304), (31, .getfield 117, 3, 808), (34, .if_icmp .ge 73, 3, 0), (37, .iload_n 1, 1, 0), (38, .iload 4, 2, 0), (40, .iadd, 1, 0),
  (41, .bipush 24, 2, 0), (43, .irem, 1, 0), (44, .istore 5, 2, 0), (46, .iload_n 2, 1, 0), (47, .aload_n 0, 1, 0), (48, .iload_n 3, 1, 0), (49, .iload 4, 2, 0), (51, .iload 5, 2, 0),
  (53, .invokevirtual 111, 3, 93), (56, .isub, 1, 0), (57, .istore 6, 2, 0), (59, .iload 6, 2, 0), (61, .aload_n 0, 1, 0), (62, .iload 4, 2, 0), (64, .iload 5, 2, 0), (66, .invokevirtual 120, 3, 89),
  (69, .if_icmp .le 12, 3, 0), (72, .iload 4, 2, 0), (74, .iconst 1, 1, 0), (75, .isub, 1, 0), (76, .iconst 4, 1, 0), (77, .imul, 1, 0), (78, .iconst 2, 1, 0), (79, .iadd, 1, 0),
  (80, .ireturn, 1, 0), (81, .iload 6, 2, 0), (83, .aload_n 0, 1, 0), (84, .getfield 25, 3, 304), (87, .getfield 114, 3, 812), (90, .ineg, 1, 0), (91, .if_icmp .ge 10, 3, 0), (94, .iload 4, 2, 0),
  (96, .iconst 4, 1, 0), (97, .imul, 1, 0), (98, .iconst 3, 1, 0), (99, .iadd, 1, 0), (100, .ireturn, 1, 0), (101, .iinc 4 1, 3, 0), (104, .goto (-79), 3, 0), (107, .aload_n 0, 1, 0),
  (108, .getfield 25, 3, 304), (111, .getfield 117, 3, 808), (114, .iconst 1, 1, 0), (115, .isub, 1, 0), (116, .iconst 4, 1, 0), (117, .imul, 1, 0), (118, .iconst 1, 1, 0), (119, .iadd, 1, 0),
  (120, .ireturn, 1, 0)]
def pT_108 : List pEn := [(0, .aload_n 0, 1, 0), (1, .invokevirtual 286, 3, 109), (4, .ireturn, 1, 0)]
def pT_109 : List pEn := [(0, .iconst 0, 1, 0), (1, .istore_n 1, 1, 0), (2, .aload_n 0, 1, 0), (3, .invokevirtual 265, 3, 102), (6, .ifCond .ne 5, 3, 0), (9, .iload_n 1, 1, 0), (10, .ireturn, 1, 0), (11, .aload_n 0, 1, 0),
  (12, .getfield 74, 3, 1112), (15, .aload_n 0, 1, 0), (16, .getfield 22, 3, 1105), (19, .invokevirtual 224, 3, 91), (22, .istore_n 2, 1, 0), (23, .iconst 0, 1, 0), (24, .istore_n 3, 1, 0), (25, .iload_n 3, 1, 0),
  (26, .bipush 24, 2, 0), (28, .if_icmp .ge 37, 3, 0), (31, .aload_n 0, 1, 0), (32, .getfield 43, 3, 1107), (35, .iload_n 3, 1, 0), (36, .iload_n 2, 1, 0), (37, .aload_n 0, 1, 0), (38, .getfield 74, 3, 1112),
  (41, .getfield 207, 3, 202), (44, .invokevirtual 283, 3, 107), (47, .iconst 3, 1, 0), (48, .iand, 1, 0), (49, .iconst 1, 1, 0), (50, .if_icmp .ne 9, 3, 0), (53, .iload_n 1, 1, 0), (54, .iconst 1, 1, 0),
  (55, .iload_n 3, 1, 0), (56, .ishl, 1, 0), (57, .ior, 1, 0), (58, .istore_n 1, 1, 0), (59, .iinc 3 1, 3, 0), (62, .goto (-37), 3, 0), (65, .iload_n 1, 1, 0), (66, .ireturn, 1, 0)]
def pT_110 : List pEn := [(0, .iload_n 1, 1, 0), (1, .ifCond .lt 8, 3, 0), (4, .iload_n 1, 1, 0), (5, .iconst 1, 1, 0), (6, .if_icmp .le 5, 3, 0), (9, .iconst (-1), 1, 0), (10, .ireturn, 1, 0), (11, .aload_n 0, 1, 0),
  (12, .invokevirtual 286, 3, 109), (15, .istore_n 2, 1, 0), (16, .iconst (-1), 1, 0), (17, .istore_n 3, 1, 0), (18, .iconst 0, 1, 0), (19, .istore 4, 2, 0), (21, .iconst 0, 1, 0), (22, .istore 5, 2, 0),
  (24, .iload 5, 2, 0), (26, .bipush 24, 2, 0), (28, .if_icmp .ge 31, 3, 0), (31, .iload_n 2, 1, 0), (32, .iload 5, 2, 0), (34, .invokestatic 290, 3, 1111), (37, .istore 6, 2, 0), (39, .iload 6, 2, 0),
  (41, .iload 4, 2, 0), (43, .if_icmp .le 10, 3, 0), (46, .iload 6, 2, 0), (48, .istore 4, 2, 0), (50, .iload 5, 2, 0), (52, .istore_n 3, 1, 0), (53, .iinc 5 1, 3, 0), (56, .goto (-32), 3, 0),
  (59, .iload_n 1, 1, 0), (60, .ifCond .ne 7, 3, 0), (63, .iload_n 3, 1, 0), (64, .goto 5, 3, 0), (67, .iload 4, 2, 0), (69, .ireturn, 1, 0)]
def pT_111 : List pEn := [(0, .iconst 0, 1, 0), (1, .istore_n 2, 1, 0), (2, .iload_n 2, 1, 0), (3, .bipush 24, 2, 0), (5, .if_icmp .ge 23, 3, 0), (8, .iload_n 0, 1, 0), (9, .iload_n 1, 1, 0), (10, .iload_n 2, 1, 0),
  (11, .iadd, 1, 0), (12, .bipush 24, 2, 0), (14, .irem, 1, 0), (15, .ishr, 1, 0), (16, .iconst 1, 1, 0), (17, .iand, 1, 0), (18, .iconst 1, 1, 0), (19, .if_icmp .ne 9, 3, 0),
  (22, .iinc 2 1, 3, 0), (25, .goto (-23), 3, 0), (28, .iload_n 2, 1, 0), (29, .ireturn, 1, 0)]
def pT_112 : List pEn := [(0, .iload_n 1, 1, 0), (1, .invokestatic 210, 3, 1078), (4, .ifCond .eq 19, 3, 0), (7, .iload_n 2, 1, 0), (8, .ifCond .lt 15, 3, 0), (11, .iload_n 2, 1, 0), (12, .iconst 3, 1, 0), (13, .if_icmp .gt 10, 3, 0),
  (16, .aload_n 0, 1, 0), (17, .invokevirtual 265, 3, 102), (20, .ifCond .ne 5, 3, 0), (23, .iconst (-1), 1, 0), (24, .ireturn, 1, 0), (25, .aload_n 0, 1, 0), (26, .getfield 53, 3, 1109), (29, .aload_n 0, 1, 0),
  (30, .getfield 22, 3, 1105), (33, .aload_n 0, 1, 0), (34, .getfield 43, 3, 1107), (37, .iload_n 1, 1, 0), (38, .invokevirtual 293, 3, 113), (41, .aload_n 0, 1, 0), (42, .getfield 53, 3, 1109), (45, .invokevirtual 297, 3, 118),
  (48, .ifCond .ne 6, 3, 0), (51, .bipush (-2), 2, 0), (53, .ireturn, 1, 0), (54, .iload_n 2, 1, 0), (55, .tableswitch 56 0 2 #[25, 40, 48], 25, 0), (80, .aload_n 0, 1, 0), (81, .getfield 22, 3, 1105), (84, .aload_n 0, 1, 0),
  (85, .getfield 53, 3, 1109), (88, .getfield 300, 3, 606), (91, .invokevirtual 301, 3, 119), (94, .ireturn, 1, 0), (95, .aload_n 0, 1, 0), (96, .getfield 53, 3, 1109), (99, .getfield 300, 3, 606), (102, .ireturn, 1, 0),
  (103, .aload_n 0, 1, 0), (104, .getfield 53, 3, 1109), (107, .getfield 304, 3, 607), (110, .ireturn, 1, 0), (111, .aload_n 0, 1, 0), (112, .getfield 53, 3, 1109), (115, .getfield 305, 3, 608), (118, .ireturn, 1, 0)]
def pT_113 : List pEn := [(0, .aload_n 0, 1, 0), (1, .aload_n 1, 1, 0), (2, .invokevirtual 59, 3, 114), (5, .iconst 0, 1, 0), (6, .istore 4, 2, 0), (8, .iload 4, 2, 0), (10, .aload_n 0, 1, 0), (11, .getfield 21, 3, 603),
  (14, .getfield 63, 3, 808), (17, .if_icmp .ge 98, 3, 0), (20, .iload_n 3, 1, 0), (21, .iload 4, 2, 0), (23, .iadd, 1, 0), (24, .bipush 24, 2, 0), (26, .irem, 1, 0), (27, .istore 5, 2, 0),
  (29, .iload 4, 2, 0), (31, .ifCond .ne 8, 3, 0), (34, .ldc 49, 2, 4), (36, .goto 11, 3, 0), (39, .aload_n 2, 1, 0), (40, .iload 4, 2, 0), (42, .iload 5, 2, 0), (44, .invokevirtual 66, 3, 89),
  (47, .istore 6, 2, 0), (49, .iconst 0, 1, 0), (50, .istore 7, 2, 0), (52, .iload 7, 2, 0), (54, .aload_n 0, 1, 0), (55, .getfield 37, 3, 605), (58, .if_icmp .ge 51, 3, 0), (61, .aload_n 0, 1, 0),
  (62, .iload 7, 2, 0), (64, .invokevirtual 71, 3, 116), (67, .ifCond .eq 36, 3, 0), (70, .aload_n 2, 1, 0), (71, .iload 7, 2, 0), (73, .iload 4, 2, 0), (75, .iload 5, 2, 0), (77, .invokevirtual 74, 3, 93),
  (80, .istore 8, 2, 0), (82, .aload_n 0, 1, 0), (83, .iload 7, 2, 0), (85, .iload 8, 2, 0), (87, .aload_n 0, 1, 0), (88, .getfield 21, 3, 603), (91, .getfield 78, 3, 812), (94, .isub, 1, 0),
  (95, .iload 8, 2, 0), (97, .iload 6, 2, 0), (99, .iadd, 1, 0), (100, .invokevirtual 81, 3, 117), (103, .iinc 7 1, 3, 0), (106, .goto (-54), 3, 0), (109, .iinc 4 1, 3, 0), (112, .goto (-104), 3, 0),
  (115, .return_, 1, 0)]
def pT_114 : List pEn := [(0, .aload_n 0, 1, 0), (1, .aload_n 1, 1, 0), (2, .putfield 21, 3, 603), (5, .aload_n 0, 1, 0), (6, .iconst 1, 1, 0), (7, .aload_n 0, 1, 0), (8, .getfield 21, 3, 603), (11, .getfield 25, 3, 809),
  (14, .ishl, 1, 0), (15, .putfield 31, 3, 604), (18, .aload_n 0, 1, 0), (19, .iconst 1, 1, 0), (20, .iconst 2, 1, 0), (21, .aload_n 0, 1, 0), (22, .getfield 21, 3, 603), (25, .getfield 34, 3, 810),
  (28, .imul, 1, 0), (29, .ishl, 1, 0), (30, .putfield 37, 3, 605), (33, .iconst 0, 1, 0), (34, .istore_n 2, 1, 0), (35, .iload_n 2, 1, 0), (36, .aload_n 0, 1, 0), (37, .getfield 31, 3, 604),
  (40, .if_icmp .ge 23, 3, 0), (43, .aload_n 0, 1, 0), (44, .getfield 18, 3, 602), (47, .iload_n 2, 1, 0), (48, .aload_n 0, 1, 0), (49, .getfield 21, 3, 603), (52, .iload_n 2, 1, 0), (53, .invokevirtual 40, 3, 92),
  (56, .iastore, 1, 0), (57, .iinc 2 1, 3, 0), (60, .goto (-25), 3, 0), (63, .iconst 0, 1, 0), (64, .istore_n 2, 1, 0), (65, .iload_n 2, 1, 0), (66, .aload_n 0, 1, 0), (67, .getfield 37, 3, 605),
  (70, .if_icmp .ge 52, 3, 0), (73, .aload_n 0, 1, 0), (74, .getfield 21, 3, 603), (77, .iload_n 2, 1, 0), (78, .invokevirtual 44, 3, 115), (81, .istore_n 3, 1, 0), (82, .aload_n 0, 1, 0), (83, .getfield 9, 3, 600),
  (86, .iload_n 2, 1, 0), (87, .iload_n 3, 1, 0), (88, .ifCond .eq 8, 3, 0), (91, .ldc 48, 2, 3), (93, .goto 5, 3, 0), (96, .ldc 49, 2, 4), (98, .iastore, 1, 0), (99, .aload_n 0, 1, 0),
  (100, .getfield 15, 3, 601), (103, .iload_n 2, 1, 0), (104, .iload_n 3, 1, 0), (105, .ifCond .eq 8, 3, 0), (108, .ldc 49, 2, 4), (110, .goto 5, 3, 0), (113, .ldc 48, 2, 3), (115, .iastore, 1, 0),
  (116, .iinc 2 1, 3, 0), (119, .goto (-54), 3, 0), (122, .return_, 1, 0)]
def pT_115 : List pEn := [(0, .iconst 0, 1, 0), (1, .istore_n 2, 1, 0), (2, .iload_n 2, 1, 0), (3, .iconst 3, 1, 0), (4, .if_icmp .ge 41, 3, 0), (7, .iload_n 2, 1, 0), (8, .aload_n 0, 1, 0), (9, .getfield 58, 3, 810),
  (12, .if_icmp .ge 12, 3, 0), (15, .aload_n 0, 1, 0), (16, .getfield 30, 3, 804), (19, .iload_n 2, 1, 0), (20, .iaload, 1, 0), (21, .goto 4, 3, 0), (24, .iconst 0, 1, 0), (25, .istore_n 3, 1, 0),
  (26, .iload_n 1, 1, 0), (27, .iconst 2, 1, 0), (28, .iload_n 2, 1, 0), (29, .imul, 1, 0), (30, .ishr, 1, 0), (31, .iconst 3, 1, 0), (32, .iand, 1, 0), (33, .iload_n 3, 1, 0),
  (34, .if_icmp .le 5, 3, 0), (37, .iconst 0, 1, 0), (38, .ireturn, 1, 0), (39, .iinc 2 1, 3, 0), (42, .goto (-40), 3, 0), (45, .iconst 1, 1, 0), (46, .ireturn, 1, 0)]
def pT_116 : List pEn := [(0, .aload_n 0, 1, 0), (1, .getfield 9, 3, 600), (4, .iload_n 1, 1, 0), (5, .iaload, 1, 0), (6, .aload_n 0, 1, 0), (7, .getfield 15, 3, 601), (10, .iload_n 1, 1, 0), (11, .iaload, 1, 0),
  (12, .if_icmp .gt 7, 3, 0), (15, .iconst 1, 1, 0), (16, .goto 4, 3, 0), (19, .iconst 0, 1, 0), (20, .ireturn, 1, 0)]
def pT_117 : List pEn := [(0, .aload_n 0, 1, 0), (1, .getfield 9, 3, 600), (4, .iload_n 1, 1, 0), (5, .aload_n 0, 1, 0), (6, .getfield 9, 3, 600), (9, .iload_n 1, 1, 0), (10, .iaload, 1, 0), (11, .iload_n 2, 1, 0),
  (12, .invokestatic 50, 3, 1083), (15, .iastore, 1, 0), (16, .aload_n 0, 1, 0), (17, .getfield 15, 3, 601), (20, .iload_n 1, 1, 0), (21, .aload_n 0, 1, 0), (22, .getfield 15, 3, 601), (25, .iload_n 1, 1, 0),
  (26, .iaload, 1, 0), (27, .iload_n 3, 1, 0), (28, .invokestatic 56, 3, 1030), (31, .iastore, 1, 0), (32, .return_, 1, 0)]
def pT_118 : List pEn := [(0, .iconst 0, 1, 0), (1, .istore_n 1, 1, 0), (2, .iconst 0, 1, 0), (3, .istore_n 2, 1, 0), (4, .iconst 0, 1, 0), (5, .istore_n 3, 1, 0), (6, .iload_n 3, 1, 0), (7, .aload_n 0, 1, 0),
  (8, .getfield 31, 3, 604), (11, .if_icmp .ge 118, 3, 0), (14, .aload_n 0, 1, 0), (15, .getfield 21, 3, 603), (18, .iload_n 3, 1, 0), (19, .invokevirtual 119, 3, 119), (22, .istore 4, 2, 0), (24, .iload_n 1, 1, 0),
  (25, .ifCond .eq 12, 3, 0), (28, .iload 4, 2, 0), (30, .iload_n 2, 1, 0), (31, .if_icmp .ge 6, 3, 0), (34, .goto 89, 3, 0), (37, .iconst 0, 1, 0), (38, .istore 5, 2, 0), (40, .iload 5, 2, 0),
  (42, .aload_n 0, 1, 0), (43, .getfield 37, 3, 605), (46, .if_icmp .ge 77, 3, 0), (49, .aload_n 0, 1, 0), (50, .iload_n 3, 1, 0), (51, .iload 5, 2, 0), (53, .invokevirtual 122, 3, 121), (56, .ifCond .ne 6, 3, 0),
  (59, .goto 58, 3, 0), (62, .aload_n 0, 1, 0), (63, .aload_n 0, 1, 0), (64, .getfield 18, 3, 602), (67, .iload_n 3, 1, 0), (68, .iaload, 1, 0), (69, .iload 5, 2, 0), (71, .invokevirtual 125, 3, 124),
  (74, .istore 6, 2, 0), (76, .iload_n 1, 1, 0), (77, .ifCond .eq 18, 3, 0), (80, .iload 4, 2, 0), (82, .iload_n 2, 1, 0), (83, .if_icmp .gt 12, 3, 0), (86, .iload 6, 2, 0), (88, .aload_n 0, 1, 0),
  (89, .getfield 128, 3, 608), (92, .if_icmp .ge 25, 3, 0), (95, .iconst 1, 1, 0), (96, .istore_n 1, 1, 0), (97, .iload 4, 2, 0), (99, .istore_n 2, 1, 0), (100, .aload_n 0, 1, 0), (101, .iload_n 3, 1, 0),
  (102, .putfield 131, 3, 606), (105, .aload_n 0, 1, 0), (106, .iload 5, 2, 0), (108, .putfield 132, 3, 607), (111, .aload_n 0, 1, 0), (112, .iload 6, 2, 0), (114, .putfield 128, 3, 608), (117, .iinc 5 1, 3, 0),
  (120, .goto (-80), 3, 0), (123, .iinc 3 1, 3, 0), (126, .goto (-120), 3, 0), (129, .iload_n 1, 1, 0), (130, .ireturn, 1, 0)]
def pT_119 : List pEn := [(0, .iconst 0, 1, 0), (1, .istore_n 2, 1, 0), (2, .iconst 0, 1, 0), (3, .istore_n 3, 1, 0), (4, .iload_n 3, 1, 0), (5, .aload_n 0, 1, 0), (6, .getfield 55, 3, 809), (9, .if_icmp .ge 30, 3, 0),
  (12, .iload_n 1, 1, 0), (13, .iload_n 3, 1, 0), (14, .ishr, 1, 0), (15, .iconst 1, 1, 0), (16, .iand, 1, 0), (17, .iconst 1, 1, 0), (18, .if_icmp .ne 15, 3, 0), (21, .iload_n 2, 1, 0),
  (22, .aload_n 0, 1, 0), (23, .getfield 19, 3, 801), (26, .iload_n 3, 1, 0), (27, .aaload, 1, 0), (28, .invokevirtual 101, 3, 120), (31, .iadd, 1, 0), (32, .istore_n 2, 1, 0), (33, .iinc 3 1, 3, 0),
  (36, .goto (-32), 3, 0), (39, .iload_n 2, 1, 0), (40, .ireturn, 1, 0)]
def pT_120 : List pEn := [(0, .aload_n 0, 1, 0), (1, .getfield 7, 3, 403), (4, .aload_n 0, 1, 0), (5, .getfield 13, 3, 402), (8, .isub, 1, 0), (9, .ireturn, 1, 0)]
def pT_121 : List pEn := [(0, .aload_n 0, 1, 0), (1, .iload_n 2, 1, 0), (2, .invokevirtual 71, 3, 116), (5, .ifCond .ne 5, 3, 0), (8, .iconst 0, 1, 0), (9, .ireturn, 1, 0), (10, .iconst 0, 1, 0), (11, .aload_n 0, 1, 0),
  (12, .aload_n 0, 1, 0), (13, .getfield 18, 3, 602), (16, .iload_n 1, 1, 0), (17, .iaload, 1, 0), (18, .iload_n 2, 1, 0), (19, .invokevirtual 138, 3, 122), (22, .aload_n 0, 1, 0), (23, .aload_n 0, 1, 0),
  (24, .getfield 18, 3, 602), (27, .iload_n 1, 1, 0), (28, .iaload, 1, 0), (29, .iload_n 2, 1, 0), (30, .invokevirtual 125, 3, 124), (33, .isub, 1, 0), (34, .iconst 1, 1, 0), (35, .iadd, 1, 0),
  (36, .invokestatic 50, 3, 1083), (39, .ireturn, 1, 0)]
def pT_122 : List pEn := [(0, .bipush 9, 2, 0), (2, .aload_n 0, 1, 0), (3, .getfield 15, 3, 601), (6, .iload_n 2, 1, 0), (7, .iaload, 1, 0), (8, .iload_n 1, 1, 0), (9, .isub, 1, 0), (10, .iconst 1, 1, 0),
  (11, .aload_n 0, 1, 0), (12, .getfield 21, 3, 603), (15, .getfield 113, 3, 814), (18, .invokestatic 50, 3, 1083), (21, .invokestatic 116, 3, 1123), (24, .invokestatic 56, 3, 1030), (27, .ireturn, 1, 0)]
def pT_123 : List pEn := [(0, .iload_n 0, 1, 0), (1, .iload_n 1, 1, 0), (2, .idiv, 1, 0), (3, .istore_n 2, 1, 0), (4, .iload_n 0, 1, 0), (5, .iload_n 1, 1, 0), (6, .ixor, 1, 0), (7, .ifCond .ge 14, 3, 0),
  (10, .iload_n 2, 1, 0), (11, .iload_n 1, 1, 0), (12, .imul, 1, 0), (13, .iload_n 0, 1, 0), (14, .if_icmp .eq 7, 3, 0), (17, .iload_n 2, 1, 0), (18, .iconst 1, 1, 0), (19, .isub, 1, 0),
  (20, .ireturn, 1, 0), (21, .iload_n 2, 1, 0), (22, .ireturn, 1, 0)]
def pT_124 : List pEn := [(0, .iconst 0, 1, 0), (1, .iload_n 1, 1, 0), (2, .aload_n 0, 1, 0), (3, .getfield 9, 3, 600), (6, .iload_n 2, 1, 0), (7, .iaload, 1, 0), (8, .isub, 1, 0), (9, .iconst 1, 1, 0),
  (10, .aload_n 0, 1, 0), (11, .getfield 21, 3, 603), (14, .getfield 113, 3, 814), (17, .invokestatic 50, 3, 1083), (20, .invokestatic 116, 3, 1123), (23, .ineg, 1, 0), (24, .invokestatic 50, 3, 1083), (27, .ireturn, 1, 0)]
def pT_125 : List pEn := [(0, .iload_n 1, 1, 0), (1, .invokestatic 210, 3, 1078), (4, .ifCond .eq 10, 3, 0), (7, .aload_n 0, 1, 0), (8, .invokevirtual 265, 3, 102), (11, .ifCond .ne 5, 3, 0), (14, .iconst (-1), 1, 0), (15, .ireturn, 1, 0),
  (16, .aload_n 0, 1, 0), (17, .getfield 60, 3, 1110), (20, .aload_n 0, 1, 0), (21, .getfield 22, 3, 1105), (24, .aload_n 0, 1, 0), (25, .getfield 43, 3, 1107), (28, .aload_n 0, 1, 0), (29, .getfield 74, 3, 1112),
  (32, .iload_n 1, 1, 0), (33, .invokevirtual 306, 3, 126), (36, .ireturn, 1, 0)]
def pT_126 : List pEn := [(0, .aload_n 1, 1, 0), (1, .getfield 24, 3, 808), (4, .iconst 1, 1, 0), (5, .isub, 1, 0), (6, .istore 5, 2, 0), (8, .iload 5, 2, 0), (10, .iconst 1, 1, 0), (11, .if_icmp .ge 6, 3, 0),
  (14, .bipush (-2), 2, 0), (16, .ireturn, 1, 0), (17, .iconst 0, 1, 0), (18, .istore 6, 2, 0), (20, .iload 6, 2, 0), (22, .iload 5, 2, 0), (24, .if_icmp .ge 97, 3, 0), (27, .iload 4, 2, 0),
  (29, .iload 6, 2, 0), (31, .iadd, 1, 0), (32, .bipush 24, 2, 0), (34, .irem, 1, 0), (35, .istore 7, 2, 0), (37, .iload 7, 2, 0), (39, .iconst 1, 1, 0), (40, .iadd, 1, 0),
  (41, .bipush 24, 2, 0), (43, .irem, 1, 0), (44, .istore 8, 2, 0), (46, .aload_n 2, 1, 0), (47, .aload_n 3, 1, 0), (48, .getfield 30, 3, 202), (51, .iload 6, 2, 0), (53, .iload 7, 2, 0),
  (55, .invokevirtual 35, 3, 93), (58, .istore 9, 2, 0), (60, .aload_n 2, 1, 0), (61, .aload_n 3, 1, 0), (62, .getfield 30, 3, 202), (65, .iload 6, 2, 0), (67, .iconst 1, 1, 0), (68, .iadd, 1, 0),
  (69, .iload 8, 2, 0), (71, .invokevirtual 35, 3, 93), (74, .istore 10, 2, 0), (76, .aload_n 0, 1, 0), (77, .getfield 15, 3, 1), (80, .iload 6, 2, 0), (82, .iload 9, 2, 0), (84, .iload 10, 2, 0),
  (86, .invokestatic 41, 3, 1083), (89, .aload_n 1, 1, 0), (90, .getfield 47, 3, 812), (93, .isub, 1, 0), (94, .iastore, 1, 0), (95, .aload_n 0, 1, 0), (96, .getfield 18, 3, 2), (99, .iload 6, 2, 0),
  (101, .iload 10, 2, 0), (103, .aload_n 2, 1, 0), (104, .iload 6, 2, 0), (106, .iconst 1, 1, 0), (107, .iadd, 1, 0), (108, .iload 8, 2, 0), (110, .invokevirtual 50, 3, 89), (113, .iadd, 1, 0),
  (114, .iastore, 1, 0), (115, .iinc 6 1, 3, 0), (118, .goto (-98), 3, 0), (121, .aload_n 1, 1, 0), (122, .aload_n 3, 1, 0), (123, .getfield 53, 3, 201), (126, .invokevirtual 56, 3, 92), (129, .istore 6, 2, 0),
  (131, .iconst 0, 1, 0), (132, .istore 7, 2, 0), (134, .iload 7, 2, 0), (136, .bipush 10, 2, 0), (138, .if_icmp .ge 23, 3, 0), (141, .aload_n 0, 1, 0), (142, .getfield 11, 3, 0), (145, .iload 5, 2, 0),
  (147, .bipush 10, 2, 0), (149, .imul, 1, 0), (150, .iload 7, 2, 0), (152, .iadd, 1, 0), (153, .iconst 0, 1, 0), (154, .iastore, 1, 0), (155, .iinc 7 1, 3, 0), (158, .goto (-24), 3, 0),
  (161, .iload 5, 2, 0), (163, .iconst 1, 1, 0), (164, .isub, 1, 0), (165, .istore 7, 2, 0), (167, .iload 7, 2, 0), (169, .ifCond .lt 87, 3, 0), (172, .iconst 0, 1, 0), (173, .istore 8, 2, 0),
  (175, .iload 8, 2, 0), (177, .bipush 10, 2, 0), (179, .if_icmp .ge 71, 3, 0), (182, .aload_n 3, 1, 0), (183, .iload 7, 2, 0), (185, .iload 8, 2, 0), (187, .invokestatic 60, 3, 1127), (190, .istore 9, 2, 0),
  (192, .aload_n 0, 1, 0), (193, .iload 7, 2, 0), (195, .iload 8, 2, 0), (197, .iload 9, 2, 0), (199, .iload 6, 2, 0), (201, .aload_n 1, 1, 0), (202, .getfield 64, 3, 814), (205, .invokevirtual 67, 3, 128),
  (208, .istore 10, 2, 0), (210, .aload_n 0, 1, 0), (211, .getfield 11, 3, 0), (214, .iload 7, 2, 0), (216, .bipush 10, 2, 0), (218, .imul, 1, 0), (219, .iload 8, 2, 0), (221, .iadd, 1, 0),
  (222, .iload 10, 2, 0), (224, .iconst (-1), 1, 0), (225, .if_icmp .ne 8, 3, 0), (228, .ldc 71, 2, 5), (230, .goto 13, 3, 0), (233, .aload_n 0, 1, 0), (234, .iload 7, 2, 0), (236, .iload 8, 2, 0),
  (238, .iload 10, 2, 0), (240, .invokevirtual 72, 3, 129), (243, .iastore, 1, 0), (244, .iinc 8 1, 3, 0), (247, .goto (-72), 3, 0), (250, .iinc 7 (-1), 3, 0), (253, .goto (-86), 3, 0), (256, .aload_n 0, 1, 0),
  (257, .aload_n 1, 1, 0), (258, .aload_n 3, 1, 0), (259, .iload 6, 2, 0), (261, .invokevirtual 75, 3, 130), (264, .ireturn, 1, 0)]
def pT_127 : List pEn := [(0, .iload_n 1, 1, 0), (1, .ifCond .ne 8, 3, 0), (4, .bipush 9, 2, 0), (6, .goto 16, 3, 0), (9, .bipush 9, 2, 0), (11, .iload_n 2, 1, 0), (12, .aload_n 0, 1, 0), (13, .getfield 79, 3, 200),
  (16, .iload_n 1, 1, 0), (17, .iaload, 1, 0), (18, .iadd, 1, 0), (19, .invokestatic 82, 3, 1030), (22, .ireturn, 1, 0)]
def pT_128 : List pEn := [(0, .iconst (-1), 1, 0), (1, .istore 6, 2, 0), (3, .ldc 71, 2, 5), (5, .istore 7, 2, 0), (7, .iconst 0, 1, 0), (8, .istore 8, 2, 0), (10, .iload 8, 2, 0), (12, .iload_n 3, 1, 0),
  (13, .if_icmp .gt 68, 3, 0), (16, .iload 4, 2, 0), (18, .iload 8, 2, 0), (20, .iload 5, 2, 0), (22, .imul, 1, 0), (23, .iadd, 1, 0), (24, .istore 9, 2, 0), (26, .iload 9, 2, 0),
  (28, .aload_n 0, 1, 0), (29, .getfield 15, 3, 1), (32, .iload_n 1, 1, 0), (33, .iaload, 1, 0), (34, .if_icmp .lt 41, 3, 0), (37, .iload 9, 2, 0), (39, .aload_n 0, 1, 0), (40, .getfield 18, 3, 2),
  (43, .iload_n 1, 1, 0), (44, .iaload, 1, 0), (45, .if_icmp .gt 30, 3, 0), (48, .aload_n 0, 1, 0), (49, .iload_n 1, 1, 0), (50, .iload_n 2, 1, 0), (51, .iload 8, 2, 0), (53, .invokevirtual 72, 3, 129),
  (56, .iload 7, 2, 0), (58, .if_icmp .ge 17, 3, 0), (61, .aload_n 0, 1, 0), (62, .iload_n 1, 1, 0), (63, .iload_n 2, 1, 0), (64, .iload 8, 2, 0), (66, .invokevirtual 72, 3, 129), (69, .istore 7, 2, 0),
  (71, .iload 8, 2, 0), (73, .istore 6, 2, 0), (75, .iinc 8 1, 3, 0), (78, .goto (-68), 3, 0), (81, .iload 6, 2, 0), (83, .ireturn, 1, 0)]
def pT_129 : List pEn := [(0, .aload_n 0, 1, 0), (1, .getfield 11, 3, 0), (4, .iload_n 1, 1, 0), (5, .iconst 1, 1, 0), (6, .iadd, 1, 0), (7, .bipush 10, 2, 0), (9, .imul, 1, 0), (10, .iload_n 3, 1, 0),
  (11, .iadd, 1, 0), (12, .iaload, 1, 0), (13, .iload_n 3, 1, 0), (14, .iload_n 2, 1, 0), (15, .if_icmp .ne 7, 3, 0), (18, .iconst 0, 1, 0), (19, .goto 4, 3, 0), (22, .iconst 1, 1, 0),
  (23, .iadd, 1, 0), (24, .ireturn, 1, 0)]
def pT_130 : List pEn := [(0, .aload_n 2, 1, 0), (1, .getfield 85, 3, 203), (4, .istore 4, 2, 0), (6, .aload_n 0, 1, 0), (7, .getfield 11, 3, 0), (10, .iload 4, 2, 0), (12, .iaload, 1, 0), (13, .ldc 71, 2, 5),
  (15, .if_icmp .lt 6, 3, 0), (18, .bipush (-2), 2, 0), (20, .ireturn, 1, 0), (21, .iconst 0, 1, 0), (22, .istore 5, 2, 0), (24, .iload 5, 2, 0), (26, .aload_n 1, 1, 0), (27, .getfield 24, 3, 808),
  (30, .iconst 1, 1, 0), (31, .isub, 1, 0), (32, .if_icmp .ge 49, 3, 0), (35, .aload_n 2, 1, 0), (36, .iload 5, 2, 0), (38, .iload 4, 2, 0), (40, .invokestatic 60, 3, 1127), (43, .istore 6, 2, 0),
  (45, .iconst 0, 1, 0), (46, .aload_n 0, 1, 0), (47, .iload 5, 2, 0), (49, .iload 4, 2, 0), (51, .iload 6, 2, 0), (53, .iload_n 3, 1, 0), (54, .aload_n 1, 1, 0), (55, .getfield 64, 3, 814),
  (58, .invokevirtual 67, 3, 128), (61, .invokestatic 41, 3, 1083), (64, .istore 4, 2, 0), (66, .aload_n 0, 1, 0), (67, .getfield 21, 3, 3), (70, .iload 5, 2, 0), (72, .iload 4, 2, 0), (74, .iastore, 1, 0),
  (75, .iinc 5 1, 3, 0), (78, .goto (-54), 3, 0), (81, .aload_n 0, 1, 0), (82, .getfield 21, 3, 3), (85, .aload_n 1, 1, 0), (86, .getfield 24, 3, 808), (89, .iconst 1, 1, 0), (90, .isub, 1, 0),
  (91, .iload 4, 2, 0), (93, .iastore, 1, 0), (94, .aload_n 0, 1, 0), (95, .getfield 11, 3, 0), (98, .aload_n 2, 1, 0), (99, .getfield 85, 3, 203), (102, .iaload, 1, 0), (103, .ireturn, 1, 0)]
def pT_131 : List pEn := [(0, .iload_n 1, 1, 0), (1, .invokestatic 210, 3, 1078), (4, .ifCond .eq 18, 3, 0), (7, .aload_n 0, 1, 0), (8, .iload_n 2, 1, 0), (9, .invokevirtual 137, 3, 77), (12, .ifCond .eq 10, 3, 0), (15, .aload_n 0, 1, 0),
  (16, .invokevirtual 265, 3, 102), (19, .ifCond .ne 5, 3, 0), (22, .iconst (-1), 1, 0), (23, .ireturn, 1, 0), (24, .aload_n 0, 1, 0), (25, .getfield 60, 3, 1110), (28, .aload_n 0, 1, 0), (29, .getfield 22, 3, 1105),
  (32, .aload_n 0, 1, 0), (33, .getfield 43, 3, 1107), (36, .aload_n 0, 1, 0), (37, .getfield 74, 3, 1112), (40, .iload_n 1, 1, 0), (41, .invokevirtual 306, 3, 126), (44, .ifCond .ge 6, 3, 0), (47, .bipush (-2), 2, 0),
  (49, .ireturn, 1, 0), (50, .aload_n 0, 1, 0), (51, .getfield 60, 3, 1110), (54, .getfield 310, 3, 3), (57, .iload_n 2, 1, 0), (58, .iaload, 1, 0), (59, .ireturn, 1, 0)]
def pT_132 : List pEn := [(0, .iload_n 1, 1, 0), (1, .invokestatic 210, 3, 1078), (4, .ifCond .eq 10, 3, 0), (7, .aload_n 0, 1, 0), (8, .invokevirtual 265, 3, 102), (11, .ifCond .ne 5, 3, 0), (14, .iconst (-1), 1, 0), (15, .ireturn, 1, 0),
  (16, .aload_n 0, 1, 0), (17, .getfield 74, 3, 1112), (20, .aload_n 0, 1, 0), (21, .getfield 22, 3, 1105), (24, .invokevirtual 224, 3, 91), (27, .istore_n 2, 1, 0), (28, .iconst 0, 1, 0), (29, .istore_n 3, 1, 0),
  (30, .iconst 0, 1, 0), (31, .istore 4, 2, 0), (33, .iload 4, 2, 0), (35, .aload_n 0, 1, 0), (36, .getfield 22, 3, 1105), (39, .getfield 313, 3, 808), (42, .if_icmp .ge 108, 3, 0), (45, .iload_n 1, 1, 0),
  (46, .iload 4, 2, 0), (48, .iadd, 1, 0), (49, .bipush 24, 2, 0), (51, .irem, 1, 0), (52, .istore 5, 2, 0), (54, .iload_n 2, 1, 0), (55, .aload_n 0, 1, 0), (56, .getfield 43, 3, 1107),
  (59, .aload_n 0, 1, 0), (60, .getfield 74, 3, 1112), (63, .getfield 207, 3, 202), (66, .iload 4, 2, 0), (68, .iload 5, 2, 0), (70, .invokevirtual 228, 3, 93), (73, .isub, 1, 0), (74, .istore 6, 2, 0),
  (76, .iload 4, 2, 0), (78, .ifCond .le 22, 3, 0), (81, .iload 6, 2, 0), (83, .aload_n 0, 1, 0), (84, .getfield 43, 3, 1107), (87, .iload 4, 2, 0), (89, .iload 5, 2, 0), (91, .invokevirtual 217, 3, 89),
  (94, .if_icmp .le 6, 3, 0), (97, .bipush (-2), 2, 0), (99, .ireturn, 1, 0), (100, .iload 6, 2, 0), (102, .aload_n 0, 1, 0), (103, .getfield 22, 3, 1105), (106, .getfield 316, 3, 812), (109, .ineg, 1, 0),
  (110, .aload_n 0, 1, 0), (111, .getfield 22, 3, 1105), (114, .getfield 319, 3, 813), (117, .isub, 1, 0), (118, .if_icmp .ge 6, 3, 0), (121, .bipush (-2), 2, 0), (123, .ireturn, 1, 0), (124, .iload 6, 2, 0),
  (126, .aload_n 0, 1, 0), (127, .getfield 22, 3, 1105), (130, .getfield 316, 3, 812), (133, .ineg, 1, 0), (134, .if_icmp .ge 10, 3, 0), (137, .iload_n 3, 1, 0), (138, .iconst 1, 1, 0), (139, .iload 4, 2, 0),
  (141, .ishl, 1, 0), (142, .ior, 1, 0), (143, .istore_n 3, 1, 0), (144, .iinc 4 1, 3, 0), (147, .goto (-114), 3, 0), (150, .iload_n 3, 1, 0), (151, .ireturn, 1, 0)]
def pT_133 : List pEn := [(0, .iload_n 1, 1, 0), (1, .invokestatic 210, 3, 1078), (4, .ifCond .eq 26, 3, 0), (7, .iload_n 2, 1, 0), (8, .invokestatic 210, 3, 1078), (11, .ifCond .eq 19, 3, 0), (14, .iload_n 3, 1, 0), (15, .ifCond .lt 15, 3, 0),
  (18, .iload_n 3, 1, 0), (19, .iconst 1, 1, 0), (20, .if_icmp .gt 10, 3, 0), (23, .aload_n 0, 1, 0), (24, .invokevirtual 265, 3, 102), (27, .ifCond .ne 5, 3, 0), (30, .iconst (-1), 1, 0), (31, .ireturn, 1, 0),
  (32, .aload_n 0, 1, 0), (33, .iload_n 1, 1, 0), (34, .iload_n 2, 1, 0), (35, .invokevirtual 322, 3, 134), (38, .istore 4, 2, 0), (40, .iload_n 3, 1, 0), (41, .ifCond .eq 10, 3, 0), (44, .iload 4, 2, 0),
  (46, .bipush (-3), 2, 0), (48, .if_icmp .ne 6, 3, 0), (51, .iload 4, 2, 0), (53, .ireturn, 1, 0), (54, .iload_n 1, 1, 0), (55, .iload_n 2, 1, 0), (56, .iload_n 1, 1, 0), (57, .isub, 1, 0),
  (58, .aload_n 0, 1, 0), (59, .getfield 22, 3, 1105), (62, .getfield 313, 3, 808), (65, .iadd, 1, 0), (66, .iconst 1, 1, 0), (67, .isub, 1, 0), (68, .iconst 2, 1, 0), (69, .idiv, 1, 0),
  (70, .iadd, 1, 0), (71, .ireturn, 1, 0)]
def pT_134 : List pEn := [(0, .aload_n 0, 1, 0), (1, .getfield 22, 3, 1105), (4, .getfield 313, 3, 808), (7, .iconst 1, 1, 0), (8, .isub, 1, 0), (9, .istore_n 3, 1, 0), (10, .iload_n 2, 1, 0), (11, .iload_n 1, 1, 0),
  (12, .isub, 1, 0), (13, .iload_n 3, 1, 0), (14, .iadd, 1, 0), (15, .istore 4, 2, 0), (17, .iload 4, 2, 0), (19, .ifCond .lt 11, 3, 0), (22, .iload 4, 2, 0), (24, .iconst 2, 1, 0),
  (25, .iload_n 3, 1, 0), (26, .imul, 1, 0), (27, .if_icmp .le 6, 3, 0), (30, .bipush (-3), 2, 0), (32, .ireturn, 1, 0), (33, .iload 4, 2, 0), (35, .iconst 2, 1, 0), (36, .irem, 1, 0),
  (37, .ifCond .ne 10, 3, 0), (40, .iload 4, 2, 0), (42, .iconst 2, 1, 0), (43, .idiv, 1, 0), (44, .goto 5, 3, 0), (47, .bipush (-2), 2, 0), (49, .ireturn, 1, 0)]
def pT_135 : List pEn := [(0, .iload_n 1, 1, 0), (1, .invokestatic 210, 3, 1078), (4, .ifCond .eq 17, 3, 0), (7, .iload_n 2, 1, 0), (8, .invokestatic 210, 3, 1078), (11, .ifCond .eq 10, 3, 0), (14, .aload_n 0, 1, 0), (15, .invokevirtual 265, 3, 102),
  (18, .ifCond .ne 5, 3, 0), (21, .iconst (-1), 1, 0), (22, .ireturn, 1, 0), (23, .iconst 0, 1, 0), (24, .istore_n 3, 1, 0), (25, .iload_n 3, 1, 0), (26, .bipush 24, 2, 0), (28, .if_icmp .ge 53, 3, 0),
  (31, .aload_n 0, 1, 0), (32, .iload_n 1, 1, 0), (33, .iload_n 2, 1, 0), (34, .iload_n 3, 1, 0), (35, .iadd, 1, 0), (36, .invokevirtual 322, 3, 134), (39, .istore 4, 2, 0), (41, .iload 4, 2, 0),
  (43, .bipush (-3), 2, 0), (45, .if_icmp .eq 28, 3, 0), (48, .aload_n 0, 1, 0), (49, .iload 4, 2, 0), (51, .invokevirtual 137, 3, 77), (54, .ifCond .eq 21, 3, 0), (57, .aload_n 0, 1, 0), (58, .getfield 22, 3, 1105),
  (61, .getfield 148, 3, 800), (64, .iload 4, 2, 0), (66, .aaload, 1, 0), (67, .getfield 157, 3, 102), (70, .ifCond .eq 5, 3, 0), (73, .iload_n 3, 1, 0), (74, .ireturn, 1, 0), (75, .iinc 3 1, 3, 0),
  (78, .goto (-53), 3, 0), (81, .bipush (-2), 2, 0), (83, .ireturn, 1, 0)]
def pT_136 : List pEn := [(0, .aload_n 0, 1, 0), (1, .iload_n 1, 1, 0), (2, .invokevirtual 177, 3, 73), (5, .ifCond .eq 11, 3, 0), (8, .aload_n 0, 1, 0), (9, .iload_n 2, 1, 0), (10, .invokevirtual 137, 3, 77), (13, .ifCond .ne 5, 3, 0),
  (16, .iconst (-1), 1, 0), (17, .ireturn, 1, 0), (18, .aload_n 0, 1, 0), (19, .getfield 22, 3, 1105), (22, .getfield 180, 3, 801), (25, .iload_n 1, 1, 0), (26, .aaload, 1, 0), (27, .astore_n 3, 1, 0),
  (28, .aload_n 0, 1, 0), (29, .getfield 22, 3, 1105), (32, .getfield 148, 3, 800), (35, .iconst 0, 1, 0), (36, .aaload, 1, 0), (37, .getfield 152, 3, 101), (40, .istore 4, 2, 0), (42, .aload_n 0, 1, 0),
  (43, .getfield 22, 3, 1105), (46, .getfield 148, 3, 800), (49, .aload_n 0, 1, 0), (50, .getfield 22, 3, 1105), (53, .getfield 313, 3, 808), (56, .iconst 1, 1, 0), (57, .isub, 1, 0), (58, .aaload, 1, 0),
  (59, .getfield 152, 3, 101), (62, .iload 4, 2, 0), (64, .isub, 1, 0), (65, .istore 5, 2, 0), (67, .iload 5, 2, 0), (69, .ifCond .ne 8, 3, 0), (72, .aload_n 3, 1, 0), (73, .getfield 189, 3, 402),
  (76, .ireturn, 1, 0), (77, .aload_n 3, 1, 0), (78, .getfield 189, 3, 402), (81, .aload_n 3, 1, 0), (82, .invokevirtual 325, 3, 120), (85, .aload_n 0, 1, 0), (86, .getfield 22, 3, 1105), (89, .getfield 148, 3, 800),
  (92, .iload_n 2, 1, 0), (93, .aaload, 1, 0), (94, .getfield 152, 3, 101), (97, .iload 4, 2, 0), (99, .isub, 1, 0), (100, .imul, 1, 0), (101, .iload 5, 2, 0), (103, .idiv, 1, 0),
  (104, .iadd, 1, 0), (105, .ireturn, 1, 0)]
def pT_137 : List pEn := [(0, .iload_n 1, 1, 0), (1, .invokestatic 210, 3, 1078), (4, .ifCond .eq 10, 3, 0), (7, .aload_n 0, 1, 0), (8, .invokevirtual 265, 3, 102), (11, .ifCond .ne 5, 3, 0), (14, .iconst (-1), 1, 0), (15, .ireturn, 1, 0),
  (16, .aload_n 0, 1, 0), (17, .getfield 53, 3, 1109), (20, .aload_n 0, 1, 0), (21, .getfield 22, 3, 1105), (24, .aload_n 0, 1, 0), (25, .getfield 43, 3, 1107), (28, .iload_n 1, 1, 0), (29, .invokevirtual 293, 3, 113),
  (32, .aload_n 0, 1, 0), (33, .getfield 53, 3, 1109), (36, .invokevirtual 328, 3, 138), (39, .istore_n 2, 1, 0), (40, .iload_n 2, 1, 0), (41, .sipush 200, 3, 0), (44, .if_icmp .le 8, 3, 0), (47, .bipush (-2), 2, 0),
  (49, .goto 4, 3, 0), (52, .iload_n 2, 1, 0), (53, .ireturn, 1, 0)]
def pT_138 : List pEn := [(0, .iconst 0, 1, 0), (1, .istore_n 1, 1, 0), (2, .iconst 1, 1, 0), (3, .istore_n 2, 1, 0), (4, .iload_n 2, 1, 0), (5, .aload_n 0, 1, 0), (6, .getfield 31, 3, 604), (9, .if_icmp .ge 55, 3, 0),
  (12, .aload_n 0, 1, 0), (13, .getfield 21, 3, 603), (16, .iload_n 2, 1, 0), (17, .invokevirtual 119, 3, 119), (20, .istore_n 3, 1, 0), (21, .iload_n 3, 1, 0), (22, .iload_n 1, 1, 0), (23, .aload_n 0, 1, 0),
  (24, .getfield 18, 3, 602), (27, .iload_n 2, 1, 0), (28, .iaload, 1, 0), (29, .imul, 1, 0), (30, .if_icmp .le 28, 3, 0), (33, .aload_n 0, 1, 0), (34, .iload_n 2, 1, 0), (35, .invokevirtual 135, 3, 139),
  (38, .ifCond .eq 20, 3, 0), (41, .iload_n 3, 1, 0), (42, .ineg, 1, 0), (43, .iconst 1, 1, 0), (44, .aload_n 0, 1, 0), (45, .getfield 18, 3, 602), (48, .iload_n 2, 1, 0), (49, .iaload, 1, 0),
  (50, .invokestatic 50, 3, 1083), (53, .invokestatic 116, 3, 1123), (56, .ineg, 1, 0), (57, .istore_n 1, 1, 0), (58, .iinc 2 1, 3, 0), (61, .goto (-57), 3, 0), (64, .iload_n 1, 1, 0), (65, .ireturn, 1, 0)]
def pT_139 : List pEn := [(0, .iconst 0, 1, 0), (1, .istore_n 2, 1, 0), (2, .iload_n 2, 1, 0), (3, .aload_n 0, 1, 0), (4, .getfield 37, 3, 605), (7, .if_icmp .ge 20, 3, 0), (10, .aload_n 0, 1, 0), (11, .iload_n 1, 1, 0),
  (12, .iload_n 2, 1, 0), (13, .invokevirtual 122, 3, 121), (16, .ifCond .le 5, 3, 0), (19, .iconst 1, 1, 0), (20, .ireturn, 1, 0), (21, .iinc 2 1, 3, 0), (24, .goto (-22), 3, 0), (27, .iconst 0, 1, 0),
  (28, .ireturn, 1, 0)]
def pT_140 : List pEn := [(0, .aload_n 0, 1, 0), (1, .iload_n 1, 1, 0), (2, .invokevirtual 137, 3, 77), (5, .ifCond .ne 6, 3, 0), (8, .ldc 223, 2, 2), (10, .ireturn, 1, 0), (11, .bipush 10, 2, 0), (13, .iload_n 1, 1, 0),
  (14, .imul, 1, 0), (15, .istore_n 2, 1, 0), (16, .aload_n 0, 1, 0), (17, .getfield 22, 3, 1105), (20, .getfield 148, 3, 800), (23, .iload_n 1, 1, 0), (24, .aaload, 1, 0), (25, .getfield 152, 3, 101),
  (28, .istore_n 3, 1, 0), (29, .iload_n 3, 1, 0), (30, .ifCond .le 20, 3, 0), (33, .iinc 3 (-7), 3, 0), (36, .iload_n 2, 1, 0), (37, .aload_n 0, 1, 0), (38, .getfield 22, 3, 1105), (41, .iload_n 3, 1, 0),
  (42, .invokevirtual 331, 3, 141), (45, .iadd, 1, 0), (46, .istore_n 2, 1, 0), (47, .goto (-18), 3, 0), (50, .iload_n 2, 1, 0), (51, .ireturn, 1, 0)]
def pT_141 : List pEn := [(0, .iconst (-1), 1, 0), (1, .istore_n 2, 1, 0), (2, .iconst 0, 1, 0), (3, .istore_n 3, 1, 0), (4, .iconst 0, 1, 0), (5, .istore 4, 2, 0), (7, .iload 4, 2, 0), (9, .aload_n 0, 1, 0),
  (10, .getfield 51, 3, 808), (13, .if_icmp .ge 59, 3, 0), (16, .aload_n 0, 1, 0), (17, .getfield 11, 3, 800), (20, .iload 4, 2, 0), (22, .aaload, 1, 0), (23, .getfield 89, 3, 101), (26, .iload_n 1, 1, 0),
  (27, .if_icmp .gt 39, 3, 0), (30, .aload_n 0, 1, 0), (31, .getfield 11, 3, 800), (34, .iload 4, 2, 0), (36, .aaload, 1, 0), (37, .getfield 89, 3, 101), (40, .iload_n 2, 1, 0), (41, .if_icmp .le 25, 3, 0),
  (44, .aload_n 0, 1, 0), (45, .getfield 11, 3, 800), (48, .iload 4, 2, 0), (50, .aaload, 1, 0), (51, .getfield 89, 3, 101), (54, .istore_n 2, 1, 0), (55, .aload_n 0, 1, 0), (56, .getfield 11, 3, 800),
  (59, .iload 4, 2, 0), (61, .aaload, 1, 0), (62, .getfield 105, 3, 103), (65, .istore_n 3, 1, 0), (66, .iinc 4 1, 3, 0), (69, .goto (-62), 3, 0), (72, .iload_n 3, 1, 0), (73, .ireturn, 1, 0)]
def pT_142 : List pEn := [(0, .aload_n 0, 1, 0), (1, .iload_n 1, 1, 0), (2, .invokevirtual 137, 3, 77), (5, .ifCond .eq 31, 3, 0), (8, .iload_n 2, 1, 0), (9, .invokestatic 210, 3, 1078), (12, .ifCond .eq 24, 3, 0), (15, .iload_n 3, 1, 0),
  (16, .sipush (-9999), 3, 0), (19, .if_icmp .lt 17, 3, 0), (22, .iload 4, 2, 0), (24, .sipush 9999, 3, 0), (27, .if_icmp .gt 9, 3, 0), (30, .iload 4, 2, 0), (32, .iload_n 3, 1, 0), (33, .if_icmp .ge 5, 3, 0),
  (36, .iconst (-1), 1, 0), (37, .ireturn, 1, 0), (38, .aload_n 0, 1, 0), (39, .getfield 67, 3, 1111), (42, .iload_n 1, 1, 0), (43, .iload_n 2, 1, 0), (44, .iload_n 3, 1, 0), (45, .iload 4, 2, 0),
  (47, .invokevirtual 334, 3, 143), (50, .ireturn, 1, 0)]
def pT_143 : List pEn := [(0, .aload_n 0, 1, 0), (1, .getfield 31, 3, 906), (4, .bipush 24, 2, 0), (6, .if_icmp .lt 5, 3, 0), (9, .iconst (-1), 1, 0), (10, .ireturn, 1, 0), (11, .aload_n 0, 1, 0), (12, .getfield 9, 3, 900),
  (15, .aload_n 0, 1, 0), (16, .getfield 31, 3, 906), (19, .iload_n 1, 1, 0), (20, .iastore, 1, 0), (21, .aload_n 0, 1, 0), (22, .getfield 15, 3, 901), (25, .aload_n 0, 1, 0), (26, .getfield 31, 3, 906),
  (29, .iload_n 2, 1, 0), (30, .iastore, 1, 0), (31, .aload_n 0, 1, 0), (32, .getfield 18, 3, 902), (35, .aload_n 0, 1, 0), (36, .getfield 31, 3, 906), (39, .iload_n 3, 1, 0), (40, .iastore, 1, 0),
  (41, .aload_n 0, 1, 0), (42, .getfield 21, 3, 903), (45, .aload_n 0, 1, 0), (46, .getfield 31, 3, 906), (49, .iload 4, 2, 0), (51, .iastore, 1, 0), (52, .aload_n 0, 1, 0), (53, .getfield 28, 3, 905),
  (56, .aload_n 0, 1, 0), (57, .getfield 31, 3, 906), (60, .iconst (-1), 1, 0), (61, .iastore, 1, 0), (62, .aload_n 0, 1, 0), (63, .dup, 1, 0), (64, .getfield 31, 3, 906), (67, .iconst 1, 1, 0),
  (68, .iadd, 1, 0), (69, .putfield 31, 3, 906), (72, .aload_n 0, 1, 0), (73, .getfield 31, 3, 906), (76, .iconst 1, 1, 0), (77, .isub, 1, 0), (78, .ireturn, 1, 0)]
def pT_144 : List pEn := [(0, .aload_n 0, 1, 0), (1, .getfield 67, 3, 1111), (4, .iload_n 1, 1, 0), (5, .invokevirtual 338, 3, 145), (8, .ireturn, 1, 0)]
def pT_145 : List pEn := [(0, .iload_n 1, 1, 0), (1, .ifCond .lt 20, 3, 0), (4, .iload_n 1, 1, 0), (5, .aload_n 0, 1, 0), (6, .getfield 31, 3, 906), (9, .if_icmp .ge 12, 3, 0), (12, .aload_n 0, 1, 0), (13, .getfield 31, 3, 906),
  (16, .bipush 24, 2, 0), (18, .if_icmp .lt 5, 3, 0), (21, .iconst (-1), 1, 0), (22, .ireturn, 1, 0), (23, .aload_n 0, 1, 0), (24, .getfield 28, 3, 905), (27, .aload_n 0, 1, 0), (28, .getfield 31, 3, 906),
  (31, .iload_n 1, 1, 0), (32, .iastore, 1, 0), (33, .aload_n 0, 1, 0), (34, .dup, 1, 0), (35, .getfield 31, 3, 906), (38, .iconst 1, 1, 0), (39, .iadd, 1, 0), (40, .putfield 31, 3, 906),
  (43, .aload_n 0, 1, 0), (44, .getfield 31, 3, 906), (47, .iconst 1, 1, 0), (48, .isub, 1, 0), (49, .ireturn, 1, 0)]
def pT_146 : List pEn := [(0, .iload_n 1, 1, 0), (1, .iconst (-1), 1, 0), (2, .if_icmp .lt 14, 3, 0), (5, .iload_n 1, 1, 0), (6, .aload_n 0, 1, 0), (7, .getfield 67, 3, 1111), (10, .getfield 341, 3, 906), (13, .if_icmp .le 5, 3, 0),
  (16, .iconst 0, 1, 0), (17, .ireturn, 1, 0), (18, .aload_n 0, 1, 0), (19, .getfield 67, 3, 1111), (22, .iload_n 1, 1, 0), (23, .putfield 344, 3, 907), (26, .iconst 1, 1, 0), (27, .ireturn, 1, 0)]
def pT_147 : List pEn := [(0, .aload_n 0, 1, 0), (1, .getfield 53, 3, 1109), (4, .aload_n 0, 1, 0), (5, .getfield 22, 3, 1105), (8, .aload_n 0, 1, 0), (9, .getfield 43, 3, 1107), (12, .aload_n 0, 1, 0), (13, .getfield 67, 3, 1111),
  (16, .invokevirtual 347, 3, 148), (19, .aload_n 0, 1, 0), (20, .getfield 53, 3, 1109), (23, .iconst 0, 1, 0), (24, .invokevirtual 351, 3, 152), (27, .ireturn, 1, 0)]
def pT_148 : List pEn := [(0, .aload_n 0, 1, 0), (1, .aload_n 1, 1, 0), (2, .invokevirtual 59, 3, 114), (5, .aload_n 3, 1, 0), (6, .invokevirtual 85, 3, 149), (9, .iconst 0, 1, 0), (10, .istore 4, 2, 0), (12, .iload 4, 2, 0),
  (14, .aload_n 3, 1, 0), (15, .invokevirtual 90, 3, 150), (18, .if_icmp .ge 106, 3, 0), (21, .aload_n 3, 1, 0), (22, .iload 4, 2, 0), (24, .invokevirtual 94, 3, 151), (27, .ifCond .ne 91, 3, 0), (30, .aload_n 3, 1, 0),
  (31, .getfield 97, 3, 904), (34, .iload 4, 2, 0), (36, .baload, 1, 0), (37, .ifCond .eq 6, 3, 0), (40, .goto 78, 3, 0), (43, .iconst 0, 1, 0), (44, .istore 5, 2, 0), (46, .iload 5, 2, 0),
  (48, .aload_n 0, 1, 0), (49, .getfield 37, 3, 605), (52, .if_icmp .ge 66, 3, 0), (55, .aload_n 0, 1, 0), (56, .iload 5, 2, 0), (58, .invokevirtual 71, 3, 116), (61, .ifCond .eq 51, 3, 0), (64, .aload_n 2, 1, 0),
  (65, .iload 5, 2, 0), (67, .aload_n 3, 1, 0), (68, .getfield 101, 3, 900), (71, .iload 4, 2, 0), (73, .iaload, 1, 0), (74, .aload_n 3, 1, 0), (75, .getfield 104, 3, 901), (78, .iload 4, 2, 0),
  (80, .iaload, 1, 0), (81, .invokevirtual 74, 3, 93), (84, .istore 6, 2, 0), (86, .aload_n 0, 1, 0), (87, .iload 5, 2, 0), (89, .aload_n 3, 1, 0), (90, .getfield 107, 3, 902), (93, .iload 4, 2, 0),
  (95, .iaload, 1, 0), (96, .iload 6, 2, 0), (98, .iadd, 1, 0), (99, .aload_n 3, 1, 0), (100, .getfield 110, 3, 903), (103, .iload 4, 2, 0), (105, .iaload, 1, 0), (106, .iload 6, 2, 0),
  (108, .iadd, 1, 0), (109, .invokevirtual 81, 3, 117), (112, .iinc 5 1, 3, 0), (115, .goto (-69), 3, 0), (118, .iinc 4 1, 3, 0), (121, .goto (-109), 3, 0), (124, .return_, 1, 0)]
def pT_149 : List pEn := [(0, .iconst 0, 1, 0), (1, .istore_n 1, 1, 0), (2, .iload_n 1, 1, 0), (3, .aload_n 0, 1, 0), (4, .getfield 31, 3, 906), (7, .if_icmp .ge 16, 3, 0), (10, .aload_n 0, 1, 0), (11, .getfield 24, 3, 904),
  (14, .iload_n 1, 1, 0), (15, .iconst 0, 1, 0), (16, .bastore, 1, 0), (17, .iinc 1 1, 3, 0), (20, .goto (-18), 3, 0), (23, .aload_n 0, 1, 0), (24, .invokevirtual 44, 3, 150), (27, .iconst 1, 1, 0),
  (28, .isub, 1, 0), (29, .istore_n 1, 1, 0), (30, .iload_n 1, 1, 0), (31, .ifCond .lt 40, 3, 0), (34, .aload_n 0, 1, 0), (35, .getfield 24, 3, 904), (38, .iload_n 1, 1, 0), (39, .baload, 1, 0),
  (40, .ifCond .ne 25, 3, 0), (43, .aload_n 0, 1, 0), (44, .getfield 28, 3, 905), (47, .iload_n 1, 1, 0), (48, .iaload, 1, 0), (49, .iconst (-1), 1, 0), (50, .if_icmp .eq 15, 3, 0), (53, .aload_n 0, 1, 0),
  (54, .getfield 24, 3, 904), (57, .aload_n 0, 1, 0), (58, .getfield 28, 3, 905), (61, .iload_n 1, 1, 0), (62, .iaload, 1, 0), (63, .iconst 1, 1, 0), (64, .bastore, 1, 0), (65, .iinc 1 (-1), 3, 0),
  (68, .goto (-38), 3, 0), (71, .return_, 1, 0)]
def pT_150 : List pEn := [(0, .aload_n 0, 1, 0), (1, .getfield 35, 3, 907), (4, .iconst (-1), 1, 0), (5, .if_icmp .ne 10, 3, 0), (8, .aload_n 0, 1, 0), (9, .getfield 31, 3, 906), (12, .goto 14, 3, 0), (15, .aload_n 0, 1, 0),
  (16, .getfield 35, 3, 907), (19, .aload_n 0, 1, 0), (20, .getfield 31, 3, 906), (23, .invokestatic 38, 3, 1030), (26, .ireturn, 1, 0)]
def pT_151 : List pEn := [(0, .aload_n 0, 1, 0), (1, .getfield 28, 3, 905), (4, .iload_n 1, 1, 0), (5, .iaload, 1, 0), (6, .iconst (-1), 1, 0), (7, .if_icmp .eq 7, 3, 0), (10, .iconst 1, 1, 0), (11, .goto 4, 3, 0),
  (14, .iconst 0, 1, 0), (15, .ireturn, 1, 0)]
def pT_152 : List pEn := [(0, .iconst 0, 1, 0), (1, .istore_n 2, 1, 0), (2, .iconst 0, 1, 0), (3, .istore_n 3, 1, 0), (4, .iload_n 3, 1, 0), (5, .aload_n 0, 1, 0), (6, .getfield 31, 3, 604), (9, .if_icmp .ge 47, 3, 0),
  (12, .iload_n 3, 1, 0), (13, .iload_n 1, 1, 0), (14, .iand, 1, 0), (15, .iload_n 1, 1, 0), (16, .if_icmp .eq 6, 3, 0), (19, .goto 31, 3, 0), (22, .iconst 0, 1, 0), (23, .istore 4, 2, 0),
  (25, .iload 4, 2, 0), (27, .aload_n 0, 1, 0), (28, .getfield 37, 3, 605), (31, .if_icmp .ge 19, 3, 0), (34, .iload_n 2, 1, 0), (35, .aload_n 0, 1, 0), (36, .iload_n 3, 1, 0), (37, .iload 4, 2, 0),
  (39, .invokevirtual 122, 3, 121), (42, .iadd, 1, 0), (43, .istore_n 2, 1, 0), (44, .iinc 4 1, 3, 0), (47, .goto (-22), 3, 0), (50, .iinc 3 1, 3, 0), (53, .goto (-49), 3, 0), (56, .iload_n 2, 1, 0),
  (57, .ireturn, 1, 0)]
def pT_153 : List pEn := [(0, .iload_n 1, 1, 0), (1, .ifCond .lt 12, 3, 0), (4, .iload_n 2, 1, 0), (5, .ifCond .lt 8, 3, 0), (8, .iload_n 2, 1, 0), (9, .iconst 2, 1, 0), (10, .if_icmp .le 5, 3, 0), (13, .iconst (-1), 1, 0),
  (14, .ireturn, 1, 0), (15, .aload_n 0, 1, 0), (16, .getfield 53, 3, 1109), (19, .aload_n 0, 1, 0), (20, .getfield 22, 3, 1105), (23, .aload_n 0, 1, 0), (24, .getfield 43, 3, 1107), (27, .aload_n 0, 1, 0),
  (28, .getfield 67, 3, 1111), (31, .invokevirtual 347, 3, 148), (34, .aload_n 0, 1, 0), (35, .getfield 53, 3, 1109), (38, .iload_n 1, 1, 0), (39, .invokevirtual 354, 3, 154), (42, .ifCond .ne 6, 3, 0), (45, .bipush (-2), 2, 0),
  (47, .ireturn, 1, 0), (48, .iload_n 2, 1, 0), (49, .lookupswitch 43 #[(0, 27), (1, 35)], 27, 0), (76, .aload_n 0, 1, 0), (77, .getfield 53, 3, 1109), (80, .getfield 300, 3, 606), (83, .ireturn, 1, 0), (84, .aload_n 0, 1, 0),
  (85, .getfield 53, 3, 1109), (88, .getfield 304, 3, 607), (91, .ireturn, 1, 0), (92, .aload_n 0, 1, 0), (93, .getfield 53, 3, 1109), (96, .getfield 305, 3, 608), (99, .ireturn, 1, 0)]
def pT_154 : List pEn := [(0, .iload_n 1, 1, 0), (1, .istore_n 2, 1, 0), (2, .iconst 0, 1, 0), (3, .istore_n 3, 1, 0), (4, .iload_n 3, 1, 0), (5, .aload_n 0, 1, 0), (6, .getfield 31, 3, 604), (9, .if_icmp .ge 78, 3, 0),
  (12, .iconst 0, 1, 0), (13, .istore 4, 2, 0), (15, .iload 4, 2, 0), (17, .aload_n 0, 1, 0), (18, .getfield 37, 3, 605), (21, .if_icmp .ge 60, 3, 0), (24, .aload_n 0, 1, 0), (25, .iload_n 3, 1, 0),
  (26, .iload 4, 2, 0), (28, .invokevirtual 122, 3, 121), (31, .istore 5, 2, 0), (33, .iload_n 2, 1, 0), (34, .iload 5, 2, 0), (36, .if_icmp .ge 34, 3, 0), (39, .aload_n 0, 1, 0), (40, .iload_n 3, 1, 0),
  (41, .putfield 131, 3, 606), (44, .aload_n 0, 1, 0), (45, .iload 4, 2, 0), (47, .putfield 132, 3, 607), (50, .aload_n 0, 1, 0), (51, .aload_n 0, 1, 0), (52, .aload_n 0, 1, 0), (53, .getfield 18, 3, 602),
  (56, .iload_n 3, 1, 0), (57, .iaload, 1, 0), (58, .iload 4, 2, 0), (60, .invokevirtual 125, 3, 124), (63, .iload_n 2, 1, 0), (64, .iadd, 1, 0), (65, .putfield 128, 3, 608), (68, .iconst 1, 1, 0),
  (69, .ireturn, 1, 0), (70, .iload_n 2, 1, 0), (71, .iload 5, 2, 0), (73, .isub, 1, 0), (74, .istore_n 2, 1, 0), (75, .iinc 4 1, 3, 0), (78, .goto (-63), 3, 0), (81, .iinc 3 1, 3, 0),
  (84, .goto (-80), 3, 0), (87, .iconst 0, 1, 0), (88, .ireturn, 1, 0)]
def pT_155 : List pEn := [(0, .aload_n 0, 1, 0), (1, .iload_n 1, 1, 0), (2, .invokevirtual 177, 3, 73), (5, .ifCond .ne 5, 3, 0), (8, .iconst (-1), 1, 0), (9, .ireturn, 1, 0), (10, .aload_n 0, 1, 0), (11, .getfield 53, 3, 1109),
  (14, .aload_n 0, 1, 0), (15, .getfield 22, 3, 1105), (18, .aload_n 0, 1, 0), (19, .getfield 43, 3, 1107), (22, .aload_n 0, 1, 0), (23, .getfield 67, 3, 1111), (26, .invokevirtual 347, 3, 148), (29, .aload_n 0, 1, 0),
  (30, .getfield 53, 3, 1109), (33, .iconst 0, 1, 0), (34, .invokevirtual 351, 3, 152), (37, .istore_n 2, 1, 0), (38, .iload_n 2, 1, 0), (39, .ifCond .ne 6, 3, 0), (42, .bipush (-2), 2, 0), (44, .ireturn, 1, 0),
  (45, .aload_n 0, 1, 0), (46, .getfield 53, 3, 1109), (49, .iconst 1, 1, 0), (50, .iload_n 1, 1, 0), (51, .ishl, 1, 0), (52, .invokevirtual 351, 3, 152), (55, .istore_n 3, 1, 0), (56, .iload_n 3, 1, 0),
  (57, .iload_n 2, 1, 0), (58, .if_icmp .ne 5, 3, 0), (61, .iconst 1, 1, 0), (62, .ireturn, 1, 0), (63, .iload_n 3, 1, 0), (64, .ifCond .ne 7, 3, 0), (67, .iconst 0, 1, 0), (68, .goto 4, 3, 0),
  (71, .iconst 2, 1, 0), (72, .ireturn, 1, 0)]
def pT_156 : List pEn := [(0, .iload_n 1, 1, 0), (1, .ifCond .lt 10, 3, 0), (4, .aload_n 0, 1, 0), (5, .invokevirtual 265, 3, 102), (8, .ifCond .ne 5, 3, 0), (11, .iconst (-1), 1, 0), (12, .ireturn, 1, 0), (13, .iconst 0, 1, 0),
  (14, .istore_n 2, 1, 0), (15, .iload_n 1, 1, 0), (16, .i2l, 1, 0), (17, .lstore_n 3, 1, 0), (18, .iconst 0, 1, 0), (19, .istore 5, 2, 0), (21, .iload 5, 2, 0), (23, .bipush 10, 2, 0),
  (25, .if_icmp .ge 81, 3, 0), (28, .aload_n 0, 1, 0), (29, .getfield 81, 3, 1114), (32, .aload_n 0, 1, 0), (33, .getfield 74, 3, 1112), (36, .invokevirtual 357, 3, 157), (39, .aload_n 0, 1, 0), (40, .getfield 81, 3, 1114),
  (43, .lload_n 3, 1, 0), (44, .putfield 361, 3, 207), (47, .iconst 0, 1, 0), (48, .istore 6, 2, 0), (50, .iload 6, 2, 0), (52, .bipush 30, 2, 0), (54, .if_icmp .ge 24, 3, 0), (57, .aload_n 0, 1, 0),
  (58, .getfield 81, 3, 1114), (61, .aload_n 0, 1, 0), (62, .getfield 22, 3, 1105), (65, .aload_n 0, 1, 0), (66, .getfield 43, 3, 1107), (69, .invokevirtual 268, 3, 103), (72, .iinc 6 1, 3, 0), (75, .goto (-25), 3, 0),
  (78, .aload_n 0, 1, 0), (79, .getfield 81, 3, 1114), (82, .getfield 361, 3, 207), (85, .lstore_n 3, 1, 0), (86, .aload_n 0, 1, 0), (87, .getfield 81, 3, 1114), (90, .getfield 272, 3, 206), (93, .iconst 1, 1, 0),
  (94, .if_icmp .ne 6, 3, 0), (97, .iinc 2 1, 3, 0), (100, .iinc 5 1, 3, 0), (103, .goto (-82), 3, 0), (106, .iload_n 2, 1, 0), (107, .ireturn, 1, 0)]
def pT_157 : List pEn := [(0, .aload_n 0, 1, 0), (1, .aload_n 1, 1, 0), (2, .getfield 15, 3, 201), (5, .putfield 15, 3, 201), (8, .aload_n 0, 1, 0), (9, .aload_n 1, 1, 0), (10, .getfield 19, 3, 202), (13, .putfield 19, 3, 202),
  (16, .aload_n 0, 1, 0), (17, .aload_n 1, 1, 0), (18, .getfield 22, 3, 203), (21, .putfield 22, 3, 203), (24, .aload_n 0, 1, 0), (25, .aload_n 1, 1, 0), (26, .getfield 25, 3, 204), (29, .putfield 25, 3, 204),
  (32, .aload_n 0, 1, 0), (33, .aload_n 1, 1, 0), (34, .getfield 28, 3, 205), (37, .putfield 28, 3, 205), (40, .aload_n 0, 1, 0), (41, .aload_n 1, 1, 0), (42, .getfield 31, 3, 206), (45, .putfield 31, 3, 206),
  (48, .aload_n 0, 1, 0), (49, .aload_n 1, 1, 0), (50, .getfield 39, 3, 207), (53, .putfield 39, 3, 207), (56, .aload_n 1, 1, 0), (57, .getfield 9, 3, 200), (60, .iconst 0, 1, 0), (61, .aload_n 0, 1, 0),
  (62, .getfield 9, 3, 200), (65, .iconst 0, 1, 0), (66, .bipush 9, 2, 0), (68, .invokestatic 55, 3, 5000), (71, .return_, 1, 0)]
def pT_158 : List pEn := [(0, .aload_n 0, 1, 0), (1, .iload_n 1, 1, 0), (2, .iload_n 2, 1, 0), (3, .invokevirtual 365, 3, 159), (6, .ifCond .eq 17, 3, 0), (9, .iload_n 3, 1, 0), (10, .invokestatic 210, 3, 1078), (13, .ifCond .eq 10, 3, 0),
  (16, .aload_n 0, 1, 0), (17, .invokevirtual 265, 3, 102), (20, .ifCond .ne 5, 3, 0), (23, .iconst (-1), 1, 0), (24, .ireturn, 1, 0), (25, .aload_n 0, 1, 0), (26, .getfield 81, 3, 1114), (29, .aload_n 0, 1, 0),
  (30, .getfield 74, 3, 1112), (33, .invokevirtual 357, 3, 157), (36, .iload_n 1, 1, 0), (37, .tableswitch 80 2 4 #[27, 47, 69], 27, 0), (64, .aload_n 0, 1, 0), (65, .getfield 81, 3, 1114), (68, .dup, 1, 0), (69, .getfield 195, 3, 201),
  (72, .iconst 1, 1, 0), (73, .iload_n 2, 1, 0), (74, .ishl, 1, 0), (75, .iconst (-1), 1, 0), (76, .ixor, 1, 0), (77, .iand, 1, 0), (78, .putfield 195, 3, 201), (81, .goto 36, 3, 0),
  (84, .aload_n 0, 1, 0), (85, .getfield 81, 3, 1114), (88, .dup, 1, 0), (89, .getfield 207, 3, 202), (92, .iconst 3, 1, 0), (93, .iconst 2, 1, 0), (94, .iload_n 2, 1, 0), (95, .imul, 1, 0),
  (96, .ishl, 1, 0), (97, .iconst (-1), 1, 0), (98, .ixor, 1, 0), (99, .iand, 1, 0), (100, .putfield 207, 3, 202), (103, .goto 14, 3, 0), (106, .aload_n 0, 1, 0), (107, .getfield 81, 3, 1114),
  (110, .iconst 0, 1, 0), (111, .putfield 259, 3, 203), (114, .goto 3, 3, 0), (117, .aload_n 0, 1, 0), (118, .getfield 47, 3, 1108), (121, .aload_n 0, 1, 0), (122, .getfield 22, 3, 1105), (125, .iload_n 1, 1, 0),
  (126, .ifCond .ne 7, 3, 0), (129, .iconst 1, 1, 0), (130, .goto 4, 3, 0), (133, .iconst 0, 1, 0), (134, .iload_n 1, 1, 0), (135, .iconst 1, 1, 0), (136, .if_icmp .ne 7, 3, 0), (139, .iconst 1, 1, 0),
  (140, .goto 4, 3, 0), (143, .iconst 0, 1, 0), (144, .iload_n 1, 1, 0), (145, .iconst 5, 1, 0), (146, .if_icmp .ne 7, 3, 0), (149, .iconst 2, 1, 0), (150, .goto 4, 3, 0), (153, .iconst 1, 1, 0),
  (154, .invokevirtual 91, 3, 22), (157, .aload_n 0, 1, 0), (158, .getfield 47, 3, 1108), (161, .iload_n 3, 1, 0), (162, .aload_n 0, 1, 0), (163, .getfield 81, 3, 1114), (166, .aload_n 0, 1, 0), (167, .getfield 22, 3, 1105),
  (170, .invokevirtual 224, 3, 91), (173, .aload_n 0, 1, 0), (174, .getfield 81, 3, 1114), (177, .getfield 207, 3, 202), (180, .invokevirtual 283, 3, 107), (183, .iconst 2, 1, 0), (184, .ishr, 1, 0), (185, .ireturn, 1, 0)]
def pT_159 : List pEn := [(0, .iload_n 1, 1, 0), (1, .tableswitch 61 0 5 #[39, 39, 49, 55, 39, 39], 39, 0), (40, .iload_n 2, 1, 0), (41, .ifCond .ne 7, 3, 0), (44, .iconst 1, 1, 0), (45, .goto 4, 3, 0), (48, .iconst 0, 1, 0), (49, .ireturn, 1, 0),
  (50, .aload_n 0, 1, 0), (51, .iload_n 2, 1, 0), (52, .invokevirtual 177, 3, 73), (55, .ireturn, 1, 0), (56, .aload_n 0, 1, 0), (57, .iload_n 2, 1, 0), (58, .invokevirtual 198, 3, 75), (61, .ireturn, 1, 0),
  (62, .iconst 0, 1, 0), (63, .ireturn, 1, 0)]
def pT_160 : List pEn := [(0, .aload_n 0, 1, 0), (1, .getfield 105, 3, 1118), (4, .ifCond .ne 5, 3, 0), (7, .iconst (-1), 1, 0), (8, .ireturn, 1, 0), (9, .aload_n 0, 1, 0), (10, .dup, 1, 0), (11, .getfield 105, 3, 1118),
  (14, .iconst 1, 1, 0), (15, .isub, 1, 0), (16, .putfield 105, 3, 1118), (19, .aload_n 0, 1, 0), (20, .getfield 105, 3, 1118), (23, .iconst 5, 1, 0), (24, .imul, 1, 0), (25, .istore_n 1, 1, 0),
  (26, .aload_n 0, 1, 0), (27, .getfield 74, 3, 1112), (30, .aload_n 0, 1, 0), (31, .getfield 84, 3, 1117), (34, .iload_n 1, 1, 0), (35, .iaload, 1, 0), (36, .putfield 195, 3, 201), (39, .aload_n 0, 1, 0),
  (40, .getfield 74, 3, 1112), (43, .aload_n 0, 1, 0), (44, .getfield 84, 3, 1117), (47, .iload_n 1, 1, 0), (48, .iconst 1, 1, 0), (49, .iadd, 1, 0), (50, .iaload, 1, 0), (51, .putfield 207, 3, 202),
  (54, .aload_n 0, 1, 0), (55, .getfield 74, 3, 1112), (58, .aload_n 0, 1, 0), (59, .getfield 84, 3, 1117), (62, .iload_n 1, 1, 0), (63, .iconst 2, 1, 0), (64, .iadd, 1, 0), (65, .iaload, 1, 0),
  (66, .putfield 259, 3, 203), (69, .aload_n 0, 1, 0), (70, .getfield 74, 3, 1112), (73, .aload_n 0, 1, 0), (74, .getfield 84, 3, 1117), (77, .iload_n 1, 1, 0), (78, .iconst 3, 1, 0), (79, .iadd, 1, 0),
  (80, .iaload, 1, 0), (81, .putfield 262, 3, 205), (84, .aload_n 0, 1, 0), (85, .getfield 74, 3, 1112), (88, .getfield 163, 3, 200), (91, .aload_n 0, 1, 0), (92, .getfield 74, 3, 1112), (95, .getfield 275, 3, 204),
  (98, .aload_n 0, 1, 0), (99, .getfield 84, 3, 1117), (102, .iload_n 1, 1, 0), (103, .iconst 4, 1, 0), (104, .iadd, 1, 0), (105, .iaload, 1, 0), (106, .iastore, 1, 0), (107, .aload_n 0, 1, 0),
  (108, .getfield 105, 3, 1118), (111, .ireturn, 1, 0)]
def pT_161 : List pEn := [(0, .aload_n 0, 1, 0), (1, .getfield 78, 3, 1113), (4, .aload_n 0, 1, 0), (5, .getfield 74, 3, 1112), (8, .invokevirtual 357, 3, 157), (11, .aload_n 0, 1, 0), (12, .aload_n 0, 1, 0), (13, .getfield 67, 3, 1111),
  (16, .getfield 344, 3, 907), (19, .putfield 375, 3, 1116), (22, .aload_n 0, 1, 0), (23, .iconst 1, 1, 0), (24, .putfield 101, 3, 1115), (27, .aload_n 0, 1, 0), (28, .getfield 74, 3, 1112), (31, .getfield 262, 3, 205),
  (34, .ireturn, 1, 0)]
def pT_162 : List pEn := [(0, .aload_n 0, 1, 0), (1, .getfield 101, 3, 1115), (4, .ifCond .ne 5, 3, 0), (7, .iconst (-1), 1, 0), (8, .ireturn, 1, 0), (9, .aload_n 0, 1, 0), (10, .getfield 74, 3, 1112), (13, .aload_n 0, 1, 0),
  (14, .getfield 78, 3, 1113), (17, .invokevirtual 357, 3, 157), (20, .aload_n 0, 1, 0), (21, .getfield 67, 3, 1111), (24, .aload_n 0, 1, 0), (25, .getfield 375, 3, 1116), (28, .putfield 344, 3, 907), (31, .aload_n 0, 1, 0),
  (32, .iconst 0, 1, 0), (33, .putfield 105, 3, 1118), (36, .aload_n 0, 1, 0), (37, .getfield 74, 3, 1112), (40, .getfield 262, 3, 205), (43, .ireturn, 1, 0)]
def pT_163 : List pEn := [(0, .iload_n 1, 1, 0), (1, .tableswitch 180 0 13 #[71, 79, 87, 95, 103, 111, 119, 127, 135, 143, 148, 156, 164, 172], 71, 0), (72, .aload_n 0, 1, 0), (73, .getfield 22, 3, 1105), (76, .getfield 313, 3, 808), (79, .ireturn, 1, 0), (80, .aload_n 0, 1, 0), (81, .getfield 22, 3, 1105),
  (84, .getfield 378, 3, 809), (87, .ireturn, 1, 0), (88, .aload_n 0, 1, 0), (89, .getfield 22, 3, 1105), (92, .getfield 379, 3, 810), (95, .ireturn, 1, 0), (96, .aload_n 0, 1, 0), (97, .getfield 22, 3, 1105),
  (100, .getfield 382, 3, 816), (103, .ireturn, 1, 0), (104, .aload_n 0, 1, 0), (105, .getfield 74, 3, 1112), (108, .getfield 262, 3, 205), (111, .ireturn, 1, 0), (112, .aload_n 0, 1, 0), (113, .getfield 74, 3, 1112),
  (116, .getfield 275, 3, 204), (119, .ireturn, 1, 0), (120, .aload_n 0, 1, 0), (121, .getfield 74, 3, 1112), (124, .getfield 272, 3, 206), (127, .ireturn, 1, 0), (128, .aload_n 0, 1, 0), (129, .getfield 67, 3, 1111),
  (132, .getfield 341, 3, 906), (135, .ireturn, 1, 0), (136, .aload_n 0, 1, 0), (137, .getfield 67, 3, 1111), (140, .invokevirtual 385, 3, 150), (143, .ireturn, 1, 0), (144, .aload_n 0, 1, 0), (145, .getfield 105, 3, 1118),
  (148, .ireturn, 1, 0), (149, .aload_n 0, 1, 0), (150, .getfield 74, 3, 1112), (153, .getfield 259, 3, 203), (156, .ireturn, 1, 0), (157, .aload_n 0, 1, 0), (158, .getfield 74, 3, 1112), (161, .getfield 195, 3, 201),
  (164, .ireturn, 1, 0), (165, .aload_n 0, 1, 0), (166, .getfield 74, 3, 1112), (169, .getfield 207, 3, 202), (172, .ireturn, 1, 0), (173, .aload_n 0, 1, 0), (174, .getfield 74, 3, 1112), (177, .invokevirtual 388, 3, 164),
  (180, .ireturn, 1, 0), (181, .iconst (-1), 1, 0), (182, .ireturn, 1, 0)]
def pT_164 : List pEn := [(0, .iconst 0, 1, 0), (1, .istore_n 1, 1, 0), (2, .iconst 0, 1, 0), (3, .istore_n 2, 1, 0), (4, .iload_n 2, 1, 0), (5, .bipush 9, 2, 0), (7, .if_icmp .ge 18, 3, 0), (10, .iload_n 1, 1, 0),
  (11, .aload_n 0, 1, 0), (12, .getfield 9, 3, 200), (15, .iload_n 2, 1, 0), (16, .iaload, 1, 0), (17, .iadd, 1, 0), (18, .istore_n 1, 1, 0), (19, .iinc 2 1, 3, 0), (22, .goto (-18), 3, 0),
  (25, .iload_n 1, 1, 0), (26, .ireturn, 1, 0)]
def pT_165 : List pEn := [(0, .aload_n 0, 1, 0), (1, .iload_n 1, 1, 0), (2, .invokevirtual 137, 3, 77), (5, .ifCond .ne 13, 3, 0), (8, .new 141, 3, 999999), (11, .dup, 1, 0), (12, .ldc 143, 2, 999999), (14, .invokespecial 145, 3, 999999),
  (17, .athrow, 1, 0), (18, .aload_n 0, 1, 0), (19, .getfield 22, 3, 1105), (22, .getfield 148, 3, 800), (25, .iload_n 1, 1, 0), (26, .aaload, 1, 0), (27, .astore_n 3, 1, 0), (28, .iload_n 2, 1, 0),
  (29, .tableswitch 86 0 5 #[39, 44, 57, 62, 72, 77], 39, 0), (68, .aload_n 3, 1, 0), (69, .getfield 152, 3, 101), (72, .ireturn, 1, 0), (73, .aload_n 3, 1, 0), (74, .getfield 157, 3, 102), (77, .ifCond .eq 7, 3, 0), (80, .iconst 1, 1, 0),
  (81, .goto 4, 3, 0), (84, .iconst 0, 1, 0), (85, .ireturn, 1, 0), (86, .aload_n 3, 1, 0), (87, .getfield 160, 3, 103), (90, .ireturn, 1, 0), (91, .aload_n 0, 1, 0), (92, .getfield 74, 3, 1112),
  (95, .getfield 163, 3, 200), (98, .iload_n 1, 1, 0), (99, .iaload, 1, 0), (100, .ireturn, 1, 0), (101, .aload_n 3, 1, 0), (102, .getfield 166, 3, 105), (105, .ireturn, 1, 0), (106, .aload_n 0, 1, 0),
  (107, .getfield 22, 3, 1105), (110, .iload_n 1, 1, 0), (111, .invokevirtual 169, 3, 82), (114, .ireturn, 1, 0), (115, .new 172, 3, 999999), (118, .dup, 1, 0), (119, .ldc 174, 2, 999999), (121, .invokespecial 176, 3, 999999),
  (124, .athrow, 1, 0)]
def pT_166 : List pEn := [(0, .aload_n 0, 1, 0), (1, .invokespecial 3, 3, 4000), (4, .aload_n 0, 1, 0), (5, .sipush 700, 3, 0), (8, .newarray .int, 2, 0), (10, .putfield 9, 3, 1201), (13, .aload_n 0, 1, 0), (14, .bipush 18, 2, 0),
  (16, .newarray .int, 2, 0), (18, .dup, 1, 0), (19, .iconst 0, 1, 0), (20, .iconst 0, 1, 0), (21, .iastore, 1, 0), (22, .dup, 1, 0), (23, .iconst 1, 1, 0), (24, .iconst 0, 1, 0),
  (25, .iastore, 1, 0), (26, .dup, 1, 0), (27, .iconst 2, 1, 0), (28, .iconst 0, 1, 0), (29, .iastore, 1, 0), (30, .dup, 1, 0), (31, .iconst 3, 1, 0), (32, .bipush 40, 2, 0),
  (34, .iastore, 1, 0), (35, .dup, 1, 0), (36, .iconst 4, 1, 0), (37, .bipush 10, 2, 0), (39, .iastore, 1, 0), (40, .dup, 1, 0), (41, .iconst 5, 1, 0), (42, .bipush 10, 2, 0),
  (44, .iastore, 1, 0), (45, .dup, 1, 0), (46, .bipush 6, 2, 0), (48, .iconst 5, 1, 0), (49, .iastore, 1, 0), (50, .dup, 1, 0), (51, .bipush 7, 2, 0), (53, .iconst 0, 1, 0),
  (54, .iastore, 1, 0), (55, .dup, 1, 0), (56, .bipush 8, 2, 0), (58, .iconst 0, 1, 0), (59, .iastore, 1, 0), (60, .dup, 1, 0), (61, .bipush 9, 2, 0), (63, .iconst 0, 1, 0),
  (64, .iastore, 1, 0), (65, .dup, 1, 0), (66, .bipush 10, 2, 0), (68, .iconst 0, 1, 0), (69, .iastore, 1, 0), (70, .dup, 1, 0), (71, .bipush 11, 2, 0), (73, .iconst 0, 1, 0),
  (74, .iastore, 1, 0), (75, .dup, 1, 0), (76, .bipush 12, 2, 0), (78, .bipush 40, 2, 0), (80, .iastore, 1, 0), (81, .dup, 1, 0), (82, .bipush 13, 2, 0), (84, .bipush 10, 2, 0),
  (86, .iastore, 1, 0), (87, .dup, 1, 0), (88, .bipush 14, 2, 0), (90, .bipush 10, 2, 0), (92, .iastore, 1, 0), (93, .dup, 1, 0), (94, .bipush 15, 2, 0), (96, .iconst 5, 1, 0),
  (97, .iastore, 1, 0), (98, .dup, 1, 0), (99, .bipush 16, 2, 0), (101, .iconst 0, 1, 0), (102, .iastore, 1, 0), (103, .dup, 1, 0), (104, .bipush 17, 2, 0), (106, .iconst 0, 1, 0),
  (107, .iastore, 1, 0), (108, .putfield 15, 3, 1203), (111, .aload_n 0, 1, 0), (112, .bipush 18, 2, 0), (114, .newarray .int, 2, 0), (116, .putfield 18, 3, 1204), (119, .aload_n 0, 1, 0), (120, .bipush 18, 2, 0),
  (122, .newarray .int, 2, 0), (124, .putfield 21, 3, 1205), (127, .aload_n 0, 1, 0), (128, .bipush 18, 2, 0), (130, .newarray .boolean, 2, 0), (132, .putfield 24, 3, 1206), (135, .aload_n 0, 1, 0), (136, .bipush 18, 2, 0),
  (138, .newarray .int, 2, 0), (140, .putfield 28, 3, 1207), (143, .aload_n 0, 1, 0), (144, .bipush 18, 2, 0), (146, .newarray .int, 2, 0), (148, .putfield 31, 3, 1208), (151, .aload_n 0, 1, 0), (152, .bipush 18, 2, 0),
  (154, .newarray .int, 2, 0), (156, .putfield 34, 3, 1209), (159, .aload_n 0, 1, 0), (160, .bipush 12, 2, 0), (162, .newarray .int, 2, 0), (164, .putfield 37, 3, 1210), (167, .aload_n 0, 1, 0), (168, .bipush 12, 2, 0),
  (170, .newarray .int, 2, 0), (172, .putfield 40, 3, 1211), (175, .aload_n 0, 1, 0), (176, .bipush 12, 2, 0), (178, .newarray .int, 2, 0), (180, .putfield 43, 3, 1212), (183, .aload_n 0, 1, 0), (184, .bipush 12, 2, 0),
  (186, .newarray .int, 2, 0), (188, .putfield 46, 3, 1213), (191, .aload_n 0, 1, 0), (192, .bipush 6, 2, 0), (194, .newarray .int, 2, 0), (196, .putfield 49, 3, 1214), (199, .aload_n 0, 1, 0), (200, .bipush 6, 2, 0),
  (202, .newarray .int, 2, 0), (204, .putfield 52, 3, 1215), (207, .aload_n 0, 1, 0), (208, .bipush 6, 2, 0), (210, .newarray .int, 2, 0), (212, .putfield 55, 3, 1216), (215, .aload_n 0, 1, 0), (216, .bipush 48, 2, 0),
  (218, .newarray .int, 2, 0), (220, .dup, 1, 0), (221, .iconst 0, 1, 0), (222, .iconst 5, 1, 0), (223, .iastore, 1, 0), (224, .dup, 1, 0), (225, .iconst 1, 1, 0), (226, .iconst 5, 1, 0),
  (227, .iastore, 1, 0), (228, .dup, 1, 0), (229, .iconst 2, 1, 0), (230, .iconst 5, 1, 0), (231, .iastore, 1, 0), (232, .dup, 1, 0), (233, .iconst 3, 1, 0), (234, .iconst 5, 1, 0),
  (235, .iastore, 1, 0), (236, .dup, 1, 0), (237, .iconst 4, 1, 0), (238, .iconst 5, 1, 0), (239, .iastore, 1, 0), (240, .dup, 1, 0), (241, .iconst 5, 1, 0), (242, .iconst 5, 1, 0),
  (243, .iastore, 1, 0), (244, .dup, 1, 0), (245, .bipush 6, 2, 0), (247, .iconst 5, 1, 0), (248, .iastore, 1, 0), (249, .dup, 1, 0), (250, .bipush 7, 2, 0), (252, .iconst 5, 1, 0),
  (253, .iastore, 1, 0), (254, .dup, 1, 0), (255, .bipush 8, 2, 0), (257, .iconst 5, 1, 0), (258, .iastore, 1, 0), (259, .dup, 1, 0), (260, .bipush 9, 2, 0), (262, .iconst 5, 1, 0),
  (263, .iastore, 1, 0), (264, .dup, 1, 0), (265, .bipush 10, 2, 0), (267, .iconst 5, 1, 0), (268, .iastore, 1, 0), (269, .dup, 1, 0), (270, .bipush 11, 2, 0), (272, .iconst 5, 1, 0),
  (273, .iastore, 1, 0), (274, .dup, 1, 0), (275, .bipush 12, 2, 0), (277, .iconst 5, 1, 0), (278, .iastore, 1, 0), (279, .dup, 1, 0), (280, .bipush 13, 2, 0), (282, .iconst 5, 1, 0),
  (283, .iastore, 1, 0), (284, .dup, 1, 0), (285, .bipush 14, 2, 0), (287, .iconst 5, 1, 0), (288, .iastore, 1, 0), (289, .dup, 1, 0), (290, .bipush 15, 2, 0), (292, .iconst 5, 1, 0),
  (293, .iastore, 1, 0), (294, .dup, 1, 0), (295, .bipush 16, 2, 0), (297, .iconst 5, 1, 0), (298, .iastore, 1, 0), (299, .dup, 1, 0), (300, .bipush 17, 2, 0), (302, .iconst 5, 1, 0),
  (303, .iastore, 1, 0), (304, .dup, 1, 0), (305, .bipush 18, 2, 0), (307, .iconst 5, 1, 0), (308, .iastore, 1, 0), (309, .dup, 1, 0), (310, .bipush 19, 2, 0), (312, .iconst 5, 1, 0),
  (313, .iastore, 1, 0), (314, .dup, 1, 0), (315, .bipush 20, 2, 0), (317, .iconst 5, 1, 0), (318, .iastore, 1, 0), (319, .dup, 1, 0), (320, .bipush 21, 2, 0), (322, .iconst 5, 1, 0),
  (323, .iastore, 1, 0), (324, .dup, 1, 0), (325, .bipush 22, 2, 0), (327, .iconst 5, 1, 0), (328, .iastore, 1, 0), (329, .dup, 1, 0), (330, .bipush 23, 2, 0), (332, .iconst 5, 1, 0),
  (333, .iastore, 1, 0), (334, .dup, 1, 0), (335, .bipush 24, 2, 0), (337, .iconst 0, 1, 0), (338, .iastore, 1, 0), (339, .dup, 1, 0), (340, .bipush 25, 2, 0), (342, .iconst 0, 1, 0),
  (343, .iastore, 1, 0), (344, .dup, 1, 0), (345, .bipush 26, 2, 0), (347, .iconst 0, 1, 0), (348, .iastore, 1, 0), (349, .dup, 1, 0), (350, .bipush 27, 2, 0), (352, .iconst 0, 1, 0),
  (353, .iastore, 1, 0), (354, .dup, 1, 0), (355, .bipush 28, 2, 0), (357, .iconst 0, 1, 0), (358, .iastore, 1, 0), (359, .dup, 1, 0), (360, .bipush 29, 2, 0), (362, .iconst 0, 1, 0),
  (363, .iastore, 1, 0), (364, .dup, 1, 0), (365, .bipush 30, 2, 0), (367, .iconst 0, 1, 0), (368, .iastore, 1, 0), (369, .dup, 1, 0), (370, .bipush 31, 2, 0), (372, .iconst 0, 1, 0),
  (373, .iastore, 1, 0), (374, .dup, 1, 0), (375, .bipush 32, 2, 0), (377, .iconst 0, 1, 0), (378, .iastore, 1, 0), (379, .dup, 1, 0), (380, .bipush 33, 2, 0), (382, .iconst 0, 1, 0),
  (383, .iastore, 1, 0), (384, .dup, 1, 0), (385, .bipush 34, 2, 0), (387, .iconst 0, 1, 0), (388, .iastore, 1, 0), (389, .dup, 1, 0), (390, .bipush 35, 2, 0), (392, .iconst 0, 1, 0),
  (393, .iastore, 1, 0), (394, .dup, 1, 0), (395, .bipush 36, 2, 0), (397, .iconst 0, 1, 0), (398, .iastore, 1, 0), (399, .dup, 1, 0), (400, .bipush 37, 2, 0), (402, .iconst 0, 1, 0),
  (403, .iastore, 1, 0), (404, .dup, 1, 0), (405, .bipush 38, 2, 0), (407, .iconst 0, 1, 0), (408, .iastore, 1, 0), (409, .dup, 1, 0), (410, .bipush 39, 2, 0), (412, .iconst 0, 1, 0),
  (413, .iastore, 1, 0), (414, .dup, 1, 0), (415, .bipush 40, 2, 0), (417, .iconst 0, 1, 0), (418, .iastore, 1, 0), (419, .dup, 1, 0), (420, .bipush 41, 2, 0), (422, .iconst 0, 1, 0),
  (423, .iastore, 1, 0), (424, .dup, 1, 0), (425, .bipush 42, 2, 0), (427, .iconst 0, 1, 0), (428, .iastore, 1, 0), (429, .dup, 1, 0), (430, .bipush 43, 2, 0), (432, .iconst 0, 1, 0),
  (433, .iastore, 1, 0), (434, .dup, 1, 0), (435, .bipush 44, 2, 0), (437, .iconst 0, 1, 0), (438, .iastore, 1, 0), (439, .dup, 1, 0), (440, .bipush 45, 2, 0), (442, .iconst 0, 1, 0),
  (443, .iastore, 1, 0), (444, .dup, 1, 0), (445, .bipush 46, 2, 0), (447, .iconst 0, 1, 0), (448, .iastore, 1, 0), (449, .dup, 1, 0), (450, .bipush 47, 2, 0), (452, .iconst 0, 1, 0),
  (453, .iastore, 1, 0), (454, .putfield 58, 3, 1217), (457, .aload_n 0, 1, 0), (458, .iconst 4, 1, 0), (459, .newarray .int, 2, 0), (461, .putfield 61, 3, 1218), (464, .aload_n 0, 1, 0), (465, .iconst 4, 1, 0),
  (466, .newarray .int, 2, 0), (468, .putfield 64, 3, 1219), (471, .aload_n 0, 1, 0), (472, .sipush 128, 3, 0), (475, .newarray .int, 2, 0), (477, .putfield 67, 3, 1220), (480, .aload_n 0, 1, 0), (481, .sipush 128, 3, 0),
  (484, .newarray .int, 2, 0), (486, .putfield 70, 3, 1221), (489, .aload_n 0, 1, 0), (490, .iconst (-1), 1, 0), (491, .putfield 73, 3, 1234), (494, .aload_n 0, 1, 0), (495, .bipush 23, 2, 0), (497, .newarray .int, 2, 0),
  (499, .putfield 77, 3, 1237), (502, .aload_n 0, 1, 0), (503, .bipush 23, 2, 0), (505, .newarray .int, 2, 0), (507, .putfield 80, 3, 1238), (510, .aload_n 0, 1, 0), (511, .bipush 23, 2, 0), (513, .newarray .int, 2, 0),
  (515, .putfield 83, 3, 1239), (518, .aload_n 0, 1, 0), (519, .bipush 23, 2, 0), (521, .newarray .int, 2, 0), (523, .putfield 86, 3, 1240), (526, .aload_n 0, 1, 0), (527, .bipush 23, 2, 0), (529, .newarray .int, 2, 0),
  (531, .putfield 89, 3, 1241), (534, .aload_n 0, 1, 0), (535, .bipush 23, 2, 0), (537, .newarray .int, 2, 0), (539, .putfield 92, 3, 1242), (542, .aload_n 0, 1, 0), (543, .bipush 23, 2, 0), (545, .newarray .int, 2, 0),
  (547, .putfield 95, 3, 1243), (550, .aload_n 0, 1, 0), (551, .sipush 207, 3, 0), (554, .newarray .int, 2, 0), (556, .putfield 98, 3, 1244), (559, .aload_n 0, 1, 0), (560, .bipush 6, 2, 0), (562, .newarray .long, 2, 0),
  (564, .putfield 101, 3, 1247), (567, .aload_n 0, 1, 0), (568, .bipush 64, 2, 0), (570, .newarray .long, 2, 0), (572, .putfield 105, 3, 1248), (575, .aload_n 0, 1, 0), (576, .iconst (-1), 1, 0), (577, .putfield 108, 3, 1250),
  (580, .aload_n 0, 1, 0), (581, .sipush 648, 3, 0), (584, .newarray .int, 2, 0), (586, .putfield 111, 3, 1251), (589, .aload_n 0, 1, 0), (590, .sipush 216, 3, 0), (593, .newarray .int, 2, 0), (595, .putfield 114, 3, 1252),
  (598, .aload_n 0, 1, 0), (599, .bipush 90, 2, 0), (601, .newarray .int, 2, 0), (603, .putfield 117, 3, 1259), (606, .aload_n 0, 1, 0), (607, .iconst (-1), 1, 0), (608, .putfield 120, 3, 1262), (611, .aload_n 0, 1, 0),
  (612, .bipush 24, 2, 0), (614, .newarray .int, 2, 0), (616, .putfield 123, 3, 1263), (619, .aload_n 0, 1, 0), (620, .bipush 24, 2, 0), (622, .newarray .int, 2, 0), (624, .putfield 126, 3, 1264), (627, .aload_n 0, 1, 0),
  (628, .bipush 24, 2, 0), (630, .newarray .int, 2, 0), (632, .putfield 129, 3, 1265), (635, .aload_n 0, 1, 0), (636, .bipush 24, 2, 0), (638, .newarray .int, 2, 0), (640, .putfield 132, 3, 1266), (643, .aload_n 0, 1, 0),
  (644, .bipush 24, 2, 0), (646, .newarray .int, 2, 0), (648, .putfield 135, 3, 1267), (651, .aload_n 0, 1, 0), (652, .bipush 24, 2, 0), (654, .newarray .boolean, 2, 0), (656, .putfield 138, 3, 1268), (659, .aload_n 0, 1, 0),
  (660, .invokevirtual 141, 3, 167), (663, .return_, 1, 0)]
def pT_167 : List pEn := [(0, .aload_n 0, 1, 0), (1, .getfield 77, 3, 1237), (4, .iconst 0, 1, 0), (5, .iconst 0, 1, 0), (6, .iastore, 1, 0), (7, .aload_n 0, 1, 0), (8, .getfield 80, 3, 1238), (11, .iconst 0, 1, 0),
  (12, .iconst 0, 1, 0), (13, .iastore, 1, 0), (14, .aload_n 0, 1, 0), (15, .getfield 83, 3, 1239), (18, .iconst 0, 1, 0), (19, .iconst 0, 1, 0), (20, .iastore, 1, 0), (21, .aload_n 0, 1, 0),
  (22, .getfield 86, 3, 1240), (25, .iconst 0, 1, 0), (26, .iconst 0, 1, 0), (27, .iastore, 1, 0), (28, .aload_n 0, 1, 0), (29, .getfield 89, 3, 1241), (32, .iconst 0, 1, 0), (33, .iconst 0, 1, 0),
  (34, .iastore, 1, 0), (35, .aload_n 0, 1, 0), (36, .getfield 92, 3, 1242), (39, .iconst 0, 1, 0), (40, .iconst 0, 1, 0), (41, .iastore, 1, 0), (42, .aload_n 0, 1, 0), (43, .getfield 95, 3, 1243),
  (46, .iconst 0, 1, 0), (47, .aload_n 0, 1, 0), (48, .getfield 15, 3, 1203), (51, .bipush 7, 2, 0), (53, .iaload, 1, 0), (54, .iastore, 1, 0), (55, .iconst 0, 1, 0), (56, .istore_n 1, 1, 0),
  (57, .iload_n 1, 1, 0), (58, .bipush 9, 2, 0), (60, .if_icmp .ge 35, 3, 0), (63, .aload_n 0, 1, 0), (64, .getfield 98, 3, 1244), (67, .iload_n 1, 1, 0), (68, .iload_n 1, 1, 0), (69, .aload_n 0, 1, 0),
  (70, .getfield 15, 3, 1203), (73, .iconst 0, 1, 0), (74, .iaload, 1, 0), (75, .if_icmp .ge 12, 3, 0), (78, .aload_n 0, 1, 0), (79, .getfield 31, 3, 1208), (82, .iload_n 1, 1, 0), (83, .iaload, 1, 0),
  (84, .goto 4, 3, 0), (87, .iconst 0, 1, 0), (88, .iastore, 1, 0), (89, .iinc 1 1, 3, 0), (92, .goto (-35), 3, 0), (95, .return_, 1, 0)]
def pT_168 : List pEn := [(0, .aload_n 0, 1, 0), (1, .iconst 0, 1, 0), (2, .putfield 144, 3, 1200), (5, .aload_n 0, 1, 0), (6, .getfield 147, 3, 1202), (9, .sipush 680, 3, 0), (12, .if_icmp .le 5, 3, 0), (15, .iconst (-1), 1, 0),
  (16, .ireturn, 1, 0), (17, .iconst 0, 1, 0), (18, .istore 6, 2, 0), (20, .iload 6, 2, 0), (22, .bipush 20, 2, 0), (24, .if_icmp .ge 86, 3, 0), (27, .iload 6, 2, 0), (29, .iconst 4, 1, 0),
  (30, .if_icmp .ge 7, 3, 0), (33, .iload_n 1, 1, 0), (34, .goto 39, 3, 0), (37, .iload 6, 2, 0), (39, .bipush 8, 2, 0), (41, .if_icmp .ge 7, 3, 0), (44, .iload_n 2, 1, 0), (45, .goto 28, 3, 0),
  (48, .iload 6, 2, 0), (50, .bipush 12, 2, 0), (52, .if_icmp .ge 7, 3, 0), (55, .iload_n 3, 1, 0), (56, .goto 17, 3, 0), (59, .iload 6, 2, 0), (61, .bipush 16, 2, 0), (63, .if_icmp .ge 8, 3, 0),
  (66, .iload 4, 2, 0), (68, .goto 5, 3, 0), (71, .iload 5, 2, 0), (73, .istore 7, 2, 0), (75, .aload_n 0, 1, 0), (76, .getfield 9, 3, 1201), (79, .aload_n 0, 1, 0), (80, .getfield 147, 3, 1202),
  (83, .iload 6, 2, 0), (85, .iadd, 1, 0), (86, .iload 7, 2, 0), (88, .bipush 24, 2, 0), (90, .bipush 8, 2, 0), (92, .iload 6, 2, 0), (94, .iconst 4, 1, 0), (95, .irem, 1, 0),
  (96, .imul, 1, 0), (97, .isub, 1, 0), (98, .ishr, 1, 0), (99, .sipush 255, 3, 0), (102, .iand, 1, 0), (103, .iastore, 1, 0), (104, .iinc 6 1, 3, 0), (107, .goto (-87), 3, 0),
  (110, .aload_n 0, 1, 0), (111, .dup, 1, 0), (112, .getfield 147, 3, 1202), (115, .bipush 20, 2, 0), (117, .iadd, 1, 0), (118, .putfield 147, 3, 1202), (121, .aload_n 0, 1, 0), (122, .getfield 147, 3, 1202),
  (125, .ireturn, 1, 0)]
def pT_169 : List pEn := [(0, .aload_n 0, 1, 0), (1, .iconst 0, 1, 0), (2, .putfield 144, 3, 1200), (5, .iload_n 1, 1, 0), (6, .ifCond .lt 11, 3, 0), (9, .iload_n 1, 1, 0), (10, .aload_n 0, 1, 0), (11, .getfield 147, 3, 1202),
  (14, .if_icmp .le 6, 3, 0), (17, .bipush (-2), 2, 0), (19, .ireturn, 1, 0), (20, .aload_n 0, 1, 0), (21, .iload_n 1, 1, 0), (22, .putfield 153, 3, 1226), (25, .aload_n 0, 1, 0), (26, .iconst 0, 1, 0),
  (27, .putfield 147, 3, 1202), (30, .aload_n 0, 1, 0), (31, .iconst 0, 1, 0), (32, .putfield 150, 3, 1227), (35, .aload_n 0, 1, 0), (36, .iconst 0, 1, 0), (37, .putfield 198, 3, 1231), (40, .aload_n 0, 1, 0),
  (41, .iconst (-1), 1, 0), (42, .putfield 201, 3, 1232), (45, .iconst 0, 1, 0), (46, .istore_n 2, 1, 0), (47, .iload_n 2, 1, 0), (48, .bipush 9, 2, 0), (50, .if_icmp .ge 50, 3, 0), (53, .aload_n 0, 1, 0),
  (54, .iload_n 2, 1, 0), (55, .iload_n 2, 1, 0), (56, .iconst 3, 1, 0), (57, .if_icmp .ne 8, 3, 0), (60, .bipush 40, 2, 0), (62, .goto 29, 3, 0), (65, .iload_n 2, 1, 0), (66, .iconst 4, 1, 0),
  (67, .if_icmp .eq 8, 3, 0), (70, .iload_n 2, 1, 0), (71, .iconst 5, 1, 0), (72, .if_icmp .ne 8, 3, 0), (75, .bipush 10, 2, 0), (77, .goto 14, 3, 0), (80, .iload_n 2, 1, 0), (81, .bipush 6, 2, 0),
  (83, .if_icmp .ne 7, 3, 0), (86, .iconst 5, 1, 0), (87, .goto 4, 3, 0), (90, .iconst 0, 1, 0), (91, .invokevirtual 235, 3, 170), (94, .iinc 2 1, 3, 0), (97, .goto (-50), 3, 0), (100, .iconst 0, 1, 0),
  (101, .istore_n 2, 1, 0), (102, .iload_n 2, 1, 0), (103, .bipush 24, 2, 0), (105, .if_icmp .ge 19, 3, 0), (108, .aload_n 0, 1, 0), (109, .getfield 58, 3, 1217), (112, .bipush 24, 2, 0), (114, .iload_n 2, 1, 0),
  (115, .iadd, 1, 0), (116, .iconst 5, 1, 0), (117, .iastore, 1, 0), (118, .iinc 2 1, 3, 0), (121, .goto (-19), 3, 0), (124, .iconst 2, 1, 0), (125, .istore_n 2, 1, 0), (126, .iload_n 2, 1, 0),
  (127, .iconst 4, 1, 0), (128, .if_icmp .ge 23, 3, 0), (131, .aload_n 0, 1, 0), (132, .getfield 61, 3, 1218), (135, .iload_n 2, 1, 0), (136, .iconst 0, 1, 0), (137, .iastore, 1, 0), (138, .aload_n 0, 1, 0),
  (139, .getfield 64, 3, 1219), (142, .iload_n 2, 1, 0), (143, .iconst 0, 1, 0), (144, .iastore, 1, 0), (145, .iinc 2 1, 3, 0), (148, .goto (-22), 3, 0), (151, .aload_n 0, 1, 0), (152, .iconst 0, 1, 0),
  (153, .putfield 221, 3, 1222), (156, .aload_n 0, 1, 0), (157, .iconst 0, 1, 0), (158, .putfield 239, 3, 1223), (161, .aload_n 0, 1, 0), (162, .iconst 0, 1, 0), (163, .putfield 245, 3, 1224), (166, .aload_n 0, 1, 0),
  (167, .iconst 0, 1, 0), (168, .putfield 257, 3, 1225), (171, .aload_n 0, 1, 0), (172, .iconst 0, 1, 0), (173, .putfield 293, 3, 1235), (176, .aload_n 0, 1, 0), (177, .iconst 0, 1, 0), (178, .putfield 269, 3, 1236),
  (181, .aload_n 0, 1, 0), (182, .invokevirtual 204, 3, 171), (185, .aload_n 0, 1, 0), (186, .getfield 198, 3, 1231), (189, .ifCond .ne 18, 3, 0), (192, .aload_n 0, 1, 0), (193, .getfield 163, 3, 1229), (196, .iconst 4, 1, 0),
  (197, .if_icmp .eq 10, 3, 0), (200, .aload_n 0, 1, 0), (201, .invokevirtual 296, 3, 178), (204, .goto (-19), 3, 0), (207, .aload_n 0, 1, 0), (208, .aload_n 0, 1, 0), (209, .getfield 198, 3, 1231), (212, .putfield 299, 3, 1233),
  (215, .aload_n 0, 1, 0), (216, .aload_n 0, 1, 0), (217, .getfield 201, 3, 1232), (220, .putfield 73, 3, 1234), (223, .aload_n 0, 1, 0), (224, .getfield 198, 3, 1231), (227, .ifCond .eq 5, 3, 0), (230, .iconst (-1), 1, 0),
  (231, .ireturn, 1, 0), (232, .aload_n 0, 1, 0), (233, .getfield 15, 3, 1203), (236, .invokestatic 302, 3, 1200), (239, .aload_n 0, 1, 0), (240, .getfield 18, 3, 1204), (243, .invokestatic 302, 3, 1200), (246, .aload_n 0, 1, 0),
  (247, .getfield 21, 3, 1205), (250, .invokestatic 302, 3, 1200), (253, .iconst 0, 1, 0), (254, .istore_n 2, 1, 0), (255, .iload_n 2, 1, 0), (256, .bipush 9, 2, 0), (258, .if_icmp .ge 24, 3, 0), (261, .aload_n 0, 1, 0),
  (262, .getfield 24, 3, 1206), (265, .iload_n 2, 1, 0), (266, .aload_n 0, 1, 0), (267, .getfield 24, 3, 1206), (270, .bipush 9, 2, 0), (272, .iload_n 2, 1, 0), (273, .iadd, 1, 0), (274, .baload, 1, 0),
  (275, .bastore, 1, 0), (276, .iinc 2 1, 3, 0), (279, .goto (-24), 3, 0), (282, .aload_n 0, 1, 0), (283, .getfield 28, 3, 1207), (286, .invokestatic 302, 3, 1200), (289, .aload_n 0, 1, 0), (290, .getfield 31, 3, 1208),
  (293, .invokestatic 302, 3, 1200), (296, .aload_n 0, 1, 0), (297, .getfield 34, 3, 1209), (300, .invokestatic 302, 3, 1200), (303, .aload_n 0, 1, 0), (304, .getfield 37, 3, 1210), (307, .invokestatic 302, 3, 1200), (310, .aload_n 0, 1, 0),
  (311, .getfield 40, 3, 1211), (314, .invokestatic 302, 3, 1200), (317, .aload_n 0, 1, 0), (318, .getfield 43, 3, 1212), (321, .invokestatic 302, 3, 1200), (324, .aload_n 0, 1, 0), (325, .getfield 46, 3, 1213), (328, .invokestatic 302, 3, 1200),
  (331, .aload_n 0, 1, 0), (332, .getfield 49, 3, 1214), (335, .invokestatic 302, 3, 1200), (338, .aload_n 0, 1, 0), (339, .getfield 52, 3, 1215), (342, .invokestatic 302, 3, 1200), (345, .aload_n 0, 1, 0), (346, .getfield 55, 3, 1216),
  (349, .invokestatic 302, 3, 1200), (352, .aload_n 0, 1, 0), (353, .getfield 58, 3, 1217), (356, .invokestatic 302, 3, 1200), (359, .aload_n 0, 1, 0), (360, .getfield 61, 3, 1218), (363, .invokestatic 302, 3, 1200), (366, .aload_n 0, 1, 0),
  (367, .getfield 64, 3, 1219), (370, .invokestatic 302, 3, 1200), (373, .aload_n 0, 1, 0), (374, .getfield 67, 3, 1220), (377, .invokestatic 302, 3, 1200), (380, .aload_n 0, 1, 0), (381, .getfield 70, 3, 1221), (384, .invokestatic 302, 3, 1200),
  (387, .aload_n 0, 1, 0), (388, .iconst 0, 1, 0), (389, .putfield 306, 3, 1261), (392, .aload_n 0, 1, 0), (393, .iconst (-1), 1, 0), (394, .putfield 120, 3, 1262), (397, .aload_n 0, 1, 0), (398, .iconst 0, 1, 0),
  (399, .putfield 309, 3, 1245), (402, .aload_n 0, 1, 0), (403, .iconst 0, 1, 0), (404, .putfield 313, 3, 1246), (407, .aload_n 0, 1, 0), (408, .invokevirtual 141, 3, 167), (411, .aload_n 0, 1, 0), (412, .getfield 257, 3, 1225),
  (415, .ireturn, 1, 0)]
def pT_170 : List pEn := [(0, .aload_n 0, 1, 0), (1, .getfield 15, 3, 1203), (4, .bipush 9, 2, 0), (6, .iload_n 1, 1, 0), (7, .iadd, 1, 0), (8, .iload_n 2, 1, 0), (9, .iastore, 1, 0), (10, .return_, 1, 0)]
def pT_171 : List pEn := [(0, .aload_n 0, 1, 0), (1, .invokevirtual 156, 3, 172), (4, .bipush 10, 2, 0), (6, .if_icmp .eq 12, 3, 0), (9, .aload_n 0, 1, 0), (10, .invokevirtual 156, 3, 172), (13, .bipush 32, 2, 0), (15, .if_icmp .ne 16, 3, 0),
  (18, .aload_n 0, 1, 0), (19, .dup, 1, 0), (20, .getfield 150, 3, 1227), (23, .iconst 1, 1, 0), (24, .iadd, 1, 0), (25, .putfield 150, 3, 1227), (28, .goto (-28), 3, 0), (31, .aload_n 0, 1, 0),
  (32, .aload_n 0, 1, 0), (33, .getfield 150, 3, 1227), (36, .putfield 160, 3, 1228), (39, .aload_n 0, 1, 0), (40, .invokevirtual 156, 3, 172), (43, .istore_n 1, 1, 0), (44, .iload_n 1, 1, 0), (45, .iconst (-1), 1, 0),
  (46, .if_icmp .ne 11, 3, 0), (49, .aload_n 0, 1, 0), (50, .iconst 4, 1, 0), (51, .putfield 163, 3, 1229), (54, .goto 171, 3, 0), (57, .iload_n 1, 1, 0), (58, .invokestatic 166, 3, 1173), (61, .ifCond .eq 84, 3, 0),
  (64, .aload_n 0, 1, 0), (65, .invokevirtual 156, 3, 172), (68, .invokestatic 166, 3, 1173), (71, .ifCond .eq 16, 3, 0), (74, .aload_n 0, 1, 0), (75, .dup, 1, 0), (76, .getfield 150, 3, 1227), (79, .iconst 1, 1, 0),
  (80, .iadd, 1, 0), (81, .putfield 150, 3, 1227), (84, .goto (-20), 3, 0), (87, .aload_n 0, 1, 0), (88, .aload_n 0, 1, 0), (89, .invokevirtual 170, 3, 174), (92, .putfield 173, 3, 1230), (95, .aload_n 0, 1, 0),
  (96, .aload_n 0, 1, 0), (97, .getfield 173, 3, 1230), (100, .iconst (-1), 1, 0), (101, .if_icmp .eq 7, 3, 0), (104, .iconst 0, 1, 0), (105, .goto 22, 3, 0), (108, .aload_n 0, 1, 0), (109, .getfield 150, 3, 1227),
  (112, .aload_n 0, 1, 0), (113, .getfield 160, 3, 1228), (116, .isub, 1, 0), (117, .bipush 6, 2, 0), (119, .if_icmp .le 7, 3, 0), (122, .iconst 5, 1, 0), (123, .goto 4, 3, 0), (126, .iconst 1, 1, 0),
  (127, .putfield 163, 3, 1229), (130, .aload_n 0, 1, 0), (131, .getfield 163, 3, 1229), (134, .iconst 1, 1, 0), (135, .if_icmp .ne 90, 3, 0), (138, .aload_n 0, 1, 0), (139, .invokevirtual 176, 3, 175), (142, .goto 83, 3, 0),
  (145, .iload_n 1, 1, 0), (146, .invokestatic 179, 3, 1176), (149, .ifCond .eq 71, 3, 0), (152, .aload_n 0, 1, 0), (153, .iconst 2, 1, 0), (154, .putfield 163, 3, 1229), (157, .aload_n 0, 1, 0), (158, .iconst 0, 1, 0),
  (159, .putfield 173, 3, 1230), (162, .aload_n 0, 1, 0), (163, .invokevirtual 156, 3, 172), (166, .invokestatic 179, 3, 1176), (169, .ifCond .eq 56, 3, 0), (172, .aload_n 0, 1, 0), (173, .aload_n 0, 1, 0), (174, .getfield 173, 3, 1230),
  (177, .ldc 182, 2, 6), (179, .if_icmp .le 10, 3, 0), (182, .aload_n 0, 1, 0), (183, .getfield 173, 3, 1230), (186, .goto 18, 3, 0), (189, .bipush 10, 2, 0), (191, .aload_n 0, 1, 0), (192, .getfield 173, 3, 1230),
  (195, .imul, 1, 0), (196, .aload_n 0, 1, 0), (197, .invokevirtual 156, 3, 172), (200, .iadd, 1, 0), (201, .bipush 48, 2, 0), (203, .isub, 1, 0), (204, .putfield 173, 3, 1230), (207, .aload_n 0, 1, 0),
  (208, .dup, 1, 0), (209, .getfield 150, 3, 1227), (212, .iconst 1, 1, 0), (213, .iadd, 1, 0), (214, .putfield 150, 3, 1227), (217, .goto (-55), 3, 0), (220, .aload_n 0, 1, 0), (221, .iload_n 1, 1, 0),
  (222, .invokevirtual 183, 3, 177), (225, .return_, 1, 0)]
def pT_172 : List pEn := [(0, .aload_n 0, 1, 0), (1, .getfield 150, 3, 1227), (4, .aload_n 0, 1, 0), (5, .getfield 153, 3, 1226), (8, .if_icmp .ge 15, 3, 0), (11, .aload_n 0, 1, 0), (12, .getfield 9, 3, 1201), (15, .aload_n 0, 1, 0),
  (16, .getfield 150, 3, 1227), (19, .iaload, 1, 0), (20, .goto 4, 3, 0), (23, .iconst (-1), 1, 0), (24, .ireturn, 1, 0)]
def pT_173 : List pEn := [(0, .iload_n 0, 1, 0), (1, .bipush 97, 2, 0), (3, .if_icmp .lt 13, 3, 0), (6, .iload_n 0, 1, 0), (7, .bipush 122, 2, 0), (9, .if_icmp .gt 7, 3, 0), (12, .iconst 1, 1, 0), (13, .goto 4, 3, 0),
  (16, .iconst 0, 1, 0), (17, .ireturn, 1, 0)]
def pT_174 : List pEn := [(0, .iconst 0, 1, 0), (1, .istore_n 1, 1, 0), (2, .iconst 0, 1, 0), (3, .istore_n 2, 1, 0), (4, .iload_n 2, 1, 0), (5, .ldc 187, 2, 900), (7, .invokevirtual 189, 3, 8), (10, .if_icmp .ge 113, 3, 0),
  (13, .iconst 0, 1, 0), (14, .istore_n 3, 1, 0), (15, .ldc 187, 2, 900), (17, .iload_n 2, 1, 0), (18, .iload_n 3, 1, 0), (19, .iadd, 1, 0), (20, .invokevirtual 194, 3, 10), (23, .bipush 32, 2, 0),
  (25, .if_icmp .eq 44, 3, 0), (28, .aload_n 0, 1, 0), (29, .getfield 160, 3, 1228), (32, .iload_n 3, 1, 0), (33, .iadd, 1, 0), (34, .aload_n 0, 1, 0), (35, .getfield 150, 3, 1227), (38, .if_icmp .ge 31, 3, 0),
  (41, .aload_n 0, 1, 0), (42, .getfield 9, 3, 1201), (45, .aload_n 0, 1, 0), (46, .getfield 160, 3, 1228), (49, .iload_n 3, 1, 0), (50, .iadd, 1, 0), (51, .iaload, 1, 0), (52, .ldc 187, 2, 900),
  (54, .iload_n 2, 1, 0), (55, .iload_n 3, 1, 0), (56, .iadd, 1, 0), (57, .invokevirtual 194, 3, 10), (60, .if_icmp .ne 9, 3, 0), (63, .iinc 3 1, 3, 0), (66, .goto (-51), 3, 0), (69, .ldc 187, 2, 900),
  (71, .iload_n 2, 1, 0), (72, .iload_n 3, 1, 0), (73, .iadd, 1, 0), (74, .invokevirtual 194, 3, 10), (77, .bipush 32, 2, 0), (79, .if_icmp .ne 18, 3, 0), (82, .aload_n 0, 1, 0), (83, .getfield 160, 3, 1228),
  (86, .iload_n 3, 1, 0), (87, .iadd, 1, 0), (88, .aload_n 0, 1, 0), (89, .getfield 150, 3, 1227), (92, .if_icmp .ne 5, 3, 0), (95, .iload_n 1, 1, 0), (96, .ireturn, 1, 0), (97, .ldc 187, 2, 900),
  (99, .iload_n 2, 1, 0), (100, .invokevirtual 194, 3, 10), (103, .bipush 32, 2, 0), (105, .if_icmp .eq 9, 3, 0), (108, .iinc 2 1, 3, 0), (111, .goto (-14), 3, 0), (114, .iinc 2 1, 3, 0), (117, .iinc 1 1, 3, 0),
  (120, .goto (-116), 3, 0), (123, .iconst (-1), 1, 0), (124, .ireturn, 1, 0)]
def pT_175 : List pEn := [(0, .aload_n 0, 1, 0), (1, .iconst 0, 1, 0), (2, .putfield 173, 3, 1230), (5, .iconst 0, 1, 0), (6, .istore_n 1, 1, 0), (7, .iload_n 1, 1, 0), (8, .bipush 6, 2, 0), (10, .if_icmp .ge 53, 3, 0),
  (13, .aload_n 0, 1, 0), (14, .aload_n 0, 1, 0), (15, .getfield 173, 3, 1230), (18, .iconst 5, 1, 0), (19, .ishl, 1, 0), (20, .aload_n 0, 1, 0), (21, .getfield 160, 3, 1228), (24, .iload_n 1, 1, 0),
  (25, .iadd, 1, 0), (26, .aload_n 0, 1, 0), (27, .getfield 150, 3, 1227), (30, .if_icmp .ge 22, 3, 0), (33, .aload_n 0, 1, 0), (34, .getfield 9, 3, 1201), (37, .aload_n 0, 1, 0), (38, .getfield 160, 3, 1228),
  (41, .iload_n 1, 1, 0), (42, .iadd, 1, 0), (43, .iaload, 1, 0), (44, .bipush 97, 2, 0), (46, .isub, 1, 0), (47, .iconst 1, 1, 0), (48, .iadd, 1, 0), (49, .goto 4, 3, 0),
  (52, .iconst 0, 1, 0), (53, .ior, 1, 0), (54, .putfield 173, 3, 1230), (57, .iinc 1 1, 3, 0), (60, .goto (-53), 3, 0), (63, .return_, 1, 0)]
def pT_176 : List pEn := [(0, .iload_n 0, 1, 0), (1, .bipush 48, 2, 0), (3, .if_icmp .lt 13, 3, 0), (6, .iload_n 0, 1, 0), (7, .bipush 57, 2, 0), (9, .if_icmp .gt 7, 3, 0), (12, .iconst 1, 1, 0), (13, .goto 4, 3, 0),
  (16, .iconst 0, 1, 0), (17, .ireturn, 1, 0)]
def pT_177 : List pEn := [(0, .aload_n 0, 1, 0), (1, .dup, 1, 0), (2, .getfield 150, 3, 1227), (5, .iconst 1, 1, 0), (6, .iadd, 1, 0), (7, .putfield 150, 3, 1227), (10, .aload_n 0, 1, 0), (11, .iload_n 1, 1, 0),
  (12, .bipush 59, 2, 0), (14, .if_icmp .eq 57, 3, 0), (17, .iload_n 1, 1, 0), (18, .bipush 40, 2, 0), (20, .if_icmp .eq 51, 3, 0), (23, .iload_n 1, 1, 0), (24, .bipush 41, 2, 0), (26, .if_icmp .eq 45, 3, 0),
  (29, .iload_n 1, 1, 0), (30, .bipush 43, 2, 0), (32, .if_icmp .eq 39, 3, 0), (35, .iload_n 1, 1, 0), (36, .bipush 45, 2, 0), (38, .if_icmp .eq 33, 3, 0), (41, .iload_n 1, 1, 0), (42, .bipush 42, 2, 0),
  (44, .if_icmp .eq 27, 3, 0), (47, .iload_n 1, 1, 0), (48, .bipush 47, 2, 0), (50, .if_icmp .eq 21, 3, 0), (53, .iload_n 1, 1, 0), (54, .bipush 60, 2, 0), (56, .if_icmp .eq 15, 3, 0), (59, .iload_n 1, 1, 0),
  (60, .bipush 61, 2, 0), (62, .if_icmp .eq 9, 3, 0), (65, .iload_n 1, 1, 0), (66, .bipush 62, 2, 0), (68, .if_icmp .ne 7, 3, 0), (71, .iconst 3, 1, 0), (72, .goto 4, 3, 0), (75, .iconst 5, 1, 0),
  (76, .putfield 163, 3, 1229), (79, .aload_n 0, 1, 0), (80, .iload_n 1, 1, 0), (81, .putfield 173, 3, 1230), (84, .iload_n 1, 1, 0), (85, .bipush 60, 2, 0), (87, .if_icmp .ne 19, 3, 0), (90, .aload_n 0, 1, 0),
  (91, .invokevirtual 156, 3, 172), (94, .bipush 61, 2, 0), (96, .if_icmp .ne 10, 3, 0), (99, .aload_n 0, 1, 0), (100, .sipush 256, 3, 0), (103, .putfield 173, 3, 1230), (106, .iload_n 1, 1, 0), (107, .bipush 60, 2, 0),
  (109, .if_icmp .ne 19, 3, 0), (112, .aload_n 0, 1, 0), (113, .invokevirtual 156, 3, 172), (116, .bipush 62, 2, 0), (118, .if_icmp .ne 10, 3, 0), (121, .aload_n 0, 1, 0), (122, .sipush 257, 3, 0), (125, .putfield 173, 3, 1230),
  (128, .iload_n 1, 1, 0), (129, .bipush 62, 2, 0), (131, .if_icmp .ne 19, 3, 0), (134, .aload_n 0, 1, 0), (135, .invokevirtual 156, 3, 172), (138, .bipush 61, 2, 0), (140, .if_icmp .ne 10, 3, 0), (143, .aload_n 0, 1, 0),
  (144, .sipush 258, 3, 0), (147, .putfield 173, 3, 1230), (150, .aload_n 0, 1, 0), (151, .getfield 173, 3, 1230), (154, .sipush 256, 3, 0), (157, .if_icmp .lt 13, 3, 0), (160, .aload_n 0, 1, 0), (161, .dup, 1, 0),
  (162, .getfield 150, 3, 1227), (165, .iconst 1, 1, 0), (166, .iadd, 1, 0), (167, .putfield 150, 3, 1227), (170, .return_, 1, 0)]
def pT_178 : List pEn := [(0, .aload_n 0, 1, 0), (1, .getfield 163, 3, 1229), (4, .ifCond .ne 12, 3, 0), (7, .aload_n 0, 1, 0), (8, .getfield 173, 3, 1230), (11, .bipush 10, 2, 0), (13, .if_icmp .le 9, 3, 0), (16, .aload_n 0, 1, 0),
  (17, .iconst 1, 1, 0), (18, .invokevirtual 207, 3, 179), (21, .return_, 1, 0), (22, .aload_n 0, 1, 0), (23, .getfield 173, 3, 1230), (26, .istore_n 1, 1, 0), (27, .aload_n 0, 1, 0), (28, .iload_n 1, 1, 0),
  (29, .invokevirtual 218, 3, 180), (32, .ifCond .eq 11, 3, 0), (35, .aload_n 0, 1, 0), (36, .iconst 2, 1, 0), (37, .invokevirtual 207, 3, 179), (40, .goto 31, 3, 0), (43, .iload_n 1, 1, 0), (44, .iconst 5, 1, 0),
  (45, .if_icmp .lt 26, 3, 0), (48, .iload_n 1, 1, 0), (49, .bipush 9, 2, 0), (51, .if_icmp .gt 20, 3, 0), (54, .aload_n 0, 1, 0), (55, .getfield 221, 3, 1222), (58, .iload_n 1, 1, 0), (59, .ishr, 1, 0),
  (60, .iconst 1, 1, 0), (61, .iand, 1, 0), (62, .iconst 1, 1, 0), (63, .if_icmp .ne 8, 3, 0), (66, .aload_n 0, 1, 0), (67, .iconst 3, 1, 0), (68, .invokevirtual 207, 3, 179), (71, .aload_n 0, 1, 0),
  (72, .getfield 198, 3, 1231), (75, .ifCond .eq 4, 3, 0), (78, .return_, 1, 0), (79, .aload_n 0, 1, 0), (80, .dup, 1, 0), (81, .getfield 221, 3, 1222), (84, .iconst 1, 1, 0), (85, .iload_n 1, 1, 0),
  (86, .ishl, 1, 0), (87, .ior, 1, 0), (88, .putfield 221, 3, 1222), (91, .aload_n 0, 1, 0), (92, .invokevirtual 204, 3, 171), (95, .iload_n 1, 1, 0), (96, .tableswitch 407 0 9 #[56, 71, 155, 223, 274, 325, 332, 360, 375, 391], 56, 0), (152, .aload_n 0, 1, 0),
  (153, .bipush 9, 2, 0), (155, .aload_n 0, 1, 0), (156, .iconst 0, 1, 0), (157, .invokevirtual 214, 3, 181), (160, .iadd, 1, 0), (161, .invokevirtual 224, 3, 182), (164, .goto 343, 3, 0), (167, .bipush 6, 2, 0),
  (169, .aload_n 0, 1, 0), (170, .iconst 1, 1, 0), (171, .invokevirtual 214, 3, 181), (174, .iadd, 1, 0), (175, .istore_n 2, 1, 0), (176, .aload_n 0, 1, 0), (177, .getfield 37, 3, 1210), (180, .iload_n 2, 1, 0),
  (181, .aload_n 0, 1, 0), (182, .aload_n 0, 1, 0), (183, .getfield 37, 3, 1210), (186, .bipush 6, 2, 0), (188, .aload_n 0, 1, 0), (189, .iconst 1, 1, 0), (190, .invokevirtual 214, 3, 181), (193, .invokevirtual 227, 3, 183),
  (196, .iastore, 1, 0), (197, .aload_n 0, 1, 0), (198, .getfield 40, 3, 1211), (201, .iload_n 2, 1, 0), (202, .aload_n 0, 1, 0), (203, .iconst 1, 1, 0), (204, .bipush 60, 2, 0), (206, .invokevirtual 231, 3, 185),
  (209, .iastore, 1, 0), (210, .aload_n 0, 1, 0), (211, .getfield 43, 3, 1212), (214, .iload_n 2, 1, 0), (215, .aload_n 0, 1, 0), (216, .iconst 0, 1, 0), (217, .bipush 99, 2, 0), (219, .invokevirtual 231, 3, 185),
  (222, .iastore, 1, 0), (223, .aload_n 0, 1, 0), (224, .getfield 46, 3, 1213), (227, .iload_n 2, 1, 0), (228, .aload_n 0, 1, 0), (229, .iconst 0, 1, 0), (230, .bipush 99, 2, 0), (232, .invokevirtual 231, 3, 185),
  (235, .iastore, 1, 0), (236, .aload_n 0, 1, 0), (237, .iconst 1, 1, 0), (238, .aload_n 0, 1, 0), (239, .iconst 1, 1, 0), (240, .invokevirtual 214, 3, 181), (243, .iconst 1, 1, 0), (244, .iadd, 1, 0),
  (245, .invokevirtual 235, 3, 170), (248, .goto 259, 3, 0), (251, .iconst 3, 1, 0), (252, .aload_n 0, 1, 0), (253, .iconst 2, 1, 0), (254, .invokevirtual 214, 3, 181), (257, .iadd, 1, 0), (258, .istore_n 3, 1, 0),
  (259, .aload_n 0, 1, 0), (260, .getfield 49, 3, 1214), (263, .iload_n 3, 1, 0), (264, .aload_n 0, 1, 0), (265, .aload_n 0, 1, 0), (266, .getfield 49, 3, 1214), (269, .iconst 3, 1, 0), (270, .aload_n 0, 1, 0),
  (271, .iconst 2, 1, 0), (272, .invokevirtual 214, 3, 181), (275, .invokevirtual 227, 3, 183), (278, .iastore, 1, 0), (279, .aload_n 0, 1, 0), (280, .getfield 52, 3, 1215), (283, .iload_n 3, 1, 0), (284, .aload_n 0, 1, 0),
  (285, .iconst 1, 1, 0), (286, .bipush 9, 2, 0), (288, .invokevirtual 231, 3, 185), (291, .iastore, 1, 0), (292, .aload_n 0, 1, 0), (293, .getfield 55, 3, 1216), (296, .iload_n 3, 1, 0), (297, .aload_n 0, 1, 0),
  (298, .iconst 0, 1, 0), (299, .iconst 3, 1, 0), (300, .invokevirtual 231, 3, 185), (303, .iastore, 1, 0), (304, .aload_n 0, 1, 0), (305, .iconst 2, 1, 0), (306, .aload_n 0, 1, 0), (307, .iconst 2, 1, 0),
  (308, .invokevirtual 214, 3, 181), (311, .iconst 1, 1, 0), (312, .iadd, 1, 0), (313, .invokevirtual 235, 3, 170), (316, .goto 191, 3, 0), (319, .aload_n 0, 1, 0), (320, .aload_n 0, 1, 0), (321, .getfield 239, 3, 1223),
  (324, .invokevirtual 242, 3, 188), (327, .istore 4, 2, 0), (329, .aload_n 0, 1, 0), (330, .getfield 198, 3, 1231), (333, .ifCond .eq 4, 3, 0), (336, .return_, 1, 0), (337, .aload_n 0, 1, 0), (338, .dup, 1, 0),
  (339, .getfield 239, 3, 1223), (342, .iconst 1, 1, 0), (343, .iload 4, 2, 0), (345, .ishl, 1, 0), (346, .ior, 1, 0), (347, .putfield 239, 3, 1223), (350, .aload_n 0, 1, 0), (351, .getfield 31, 3, 1208),
  (354, .bipush 9, 2, 0), (356, .iload 4, 2, 0), (358, .iadd, 1, 0), (359, .aload_n 0, 1, 0), (360, .iconst 0, 1, 0), (361, .bipush 9, 2, 0), (363, .invokevirtual 231, 3, 185), (366, .iastore, 1, 0),
  (367, .goto 140, 3, 0), (370, .aload_n 0, 1, 0), (371, .aload_n 0, 1, 0), (372, .getfield 245, 3, 1224), (375, .invokevirtual 242, 3, 188), (378, .istore 5, 2, 0), (380, .aload_n 0, 1, 0), (381, .getfield 198, 3, 1231),
  (384, .ifCond .eq 4, 3, 0), (387, .return_, 1, 0), (388, .aload_n 0, 1, 0), (389, .dup, 1, 0), (390, .getfield 245, 3, 1224), (393, .iconst 1, 1, 0), (394, .iload 5, 2, 0), (396, .ishl, 1, 0),
  (397, .ior, 1, 0), (398, .putfield 245, 3, 1224), (401, .aload_n 0, 1, 0), (402, .getfield 34, 3, 1209), (405, .bipush 9, 2, 0), (407, .iload 5, 2, 0), (409, .iadd, 1, 0), (410, .aload_n 0, 1, 0),
  (411, .iconst 0, 1, 0), (412, .bipush 99, 2, 0), (414, .invokevirtual 231, 3, 185), (417, .iastore, 1, 0), (418, .goto 89, 3, 0), (421, .aload_n 0, 1, 0), (422, .invokevirtual 248, 3, 190), (425, .goto 82, 3, 0),
  (428, .aload_n 0, 1, 0), (429, .iconst 3, 1, 0), (430, .aload_n 0, 1, 0), (431, .iconst 1, 1, 0), (432, .sipush 199, 3, 0), (435, .invokevirtual 231, 3, 185), (438, .invokevirtual 235, 3, 170), (441, .aload_n 0, 1, 0),
  (442, .iconst 4, 1, 0), (443, .aload_n 0, 1, 0), (444, .iconst 0, 1, 0), (445, .bipush 99, 2, 0), (447, .invokevirtual 231, 3, 185), (450, .invokevirtual 235, 3, 170), (453, .goto 54, 3, 0), (456, .aload_n 0, 1, 0),
  (457, .iconst 5, 1, 0), (458, .aload_n 0, 1, 0), (459, .iconst 0, 1, 0), (460, .bipush 99, 2, 0), (462, .invokevirtual 231, 3, 185), (465, .invokevirtual 235, 3, 170), (468, .goto 39, 3, 0), (471, .aload_n 0, 1, 0),
  (472, .bipush 6, 2, 0), (474, .aload_n 0, 1, 0), (475, .iconst 1, 1, 0), (476, .bipush 20, 2, 0), (478, .invokevirtual 231, 3, 185), (481, .invokevirtual 235, 3, 170), (484, .goto 23, 3, 0), (487, .aload_n 0, 1, 0),
  (488, .bipush 7, 2, 0), (490, .aload_n 0, 1, 0), (491, .iconst 0, 1, 0), (492, .ldc 182, 2, 6), (494, .invokevirtual 231, 3, 185), (497, .invokevirtual 235, 3, 170), (500, .goto 7, 3, 0), (503, .aload_n 0, 1, 0),
  (504, .invokevirtual 251, 3, 191), (507, .aload_n 0, 1, 0), (508, .getfield 198, 3, 1231), (511, .ifCond .eq 4, 3, 0), (514, .return_, 1, 0), (515, .aload_n 0, 1, 0), (516, .bipush 59, 2, 0), (518, .invokevirtual 254, 3, 187),
  (521, .ifCond .ne 11, 3, 0), (524, .aload_n 0, 1, 0), (525, .iconst 1, 1, 0), (526, .invokevirtual 207, 3, 179), (529, .goto 7, 3, 0), (532, .aload_n 0, 1, 0), (533, .invokevirtual 204, 3, 171), (536, .aload_n 0, 1, 0),
  (537, .dup, 1, 0), (538, .getfield 257, 3, 1225), (541, .iconst 1, 1, 0), (542, .iadd, 1, 0), (543, .putfield 257, 3, 1225), (546, .return_, 1, 0)]
def pT_179 : List pEn := [(0, .aload_n 0, 1, 0), (1, .getfield 198, 3, 1231), (4, .ifCond .eq 4, 3, 0), (7, .return_, 1, 0), (8, .aload_n 0, 1, 0), (9, .iload_n 1, 1, 0), (10, .putfield 198, 3, 1231), (13, .aload_n 0, 1, 0),
  (14, .aload_n 0, 1, 0), (15, .getfield 160, 3, 1228), (18, .putfield 201, 3, 1232), (21, .return_, 1, 0)]
def pT_180 : List pEn := [(0, .iload_n 1, 1, 0), (1, .ifCond .ne 13, 3, 0), (4, .aload_n 0, 1, 0), (5, .iconst 0, 1, 0), (6, .invokevirtual 214, 3, 181), (9, .bipush 9, 2, 0), (11, .if_icmp .eq 32, 3, 0), (14, .iload_n 1, 1, 0),
  (15, .iconst 1, 1, 0), (16, .if_icmp .ne 13, 3, 0), (19, .aload_n 0, 1, 0), (20, .iconst 1, 1, 0), (21, .invokevirtual 214, 3, 181), (24, .bipush 6, 2, 0), (26, .if_icmp .eq 17, 3, 0), (29, .iload_n 1, 1, 0),
  (30, .iconst 2, 1, 0), (31, .if_icmp .ne 16, 3, 0), (34, .aload_n 0, 1, 0), (35, .iconst 2, 1, 0), (36, .invokevirtual 214, 3, 181), (39, .iconst 3, 1, 0), (40, .if_icmp .ne 7, 3, 0), (43, .iconst 1, 1, 0),
  (44, .goto 4, 3, 0), (47, .iconst 0, 1, 0), (48, .ireturn, 1, 0)]
def pT_181 : List pEn := [(0, .aload_n 0, 1, 0), (1, .getfield 15, 3, 1203), (4, .bipush 9, 2, 0), (6, .iload_n 1, 1, 0), (7, .iadd, 1, 0), (8, .iaload, 1, 0), (9, .ireturn, 1, 0)]
def pT_182 : List pEn := [(0, .aload_n 0, 1, 0), (1, .getfield 18, 3, 1204), (4, .iload_n 1, 1, 0), (5, .aload_n 0, 1, 0), (6, .aload_n 0, 1, 0), (7, .getfield 18, 3, 1204), (10, .bipush 9, 2, 0), (12, .aload_n 0, 1, 0),
  (13, .iconst 0, 1, 0), (14, .invokevirtual 214, 3, 181), (17, .invokevirtual 227, 3, 183), (20, .iastore, 1, 0), (21, .aload_n 0, 1, 0), (22, .getfield 21, 3, 1205), (25, .iload_n 1, 1, 0), (26, .aload_n 0, 1, 0),
  (27, .iconst 0, 1, 0), (28, .bipush 99, 2, 0), (30, .invokevirtual 231, 3, 185), (33, .iastore, 1, 0), (34, .aload_n 0, 1, 0), (35, .getfield 24, 3, 1206), (38, .iload_n 1, 1, 0), (39, .aload_n 0, 1, 0),
  (40, .bipush 11, 2, 0), (42, .invokevirtual 260, 3, 186), (45, .bastore, 1, 0), (46, .aload_n 0, 1, 0), (47, .getfield 24, 3, 1206), (50, .iload_n 1, 1, 0), (51, .baload, 1, 0), (52, .ifCond .eq 7, 3, 0),
  (55, .aload_n 0, 1, 0), (56, .invokevirtual 204, 3, 171), (59, .aload_n 0, 1, 0), (60, .getfield 28, 3, 1207), (63, .iload_n 1, 1, 0), (64, .iconst 0, 1, 0), (65, .iastore, 1, 0), (66, .aload_n 0, 1, 0),
  (67, .getfield 31, 3, 1208), (70, .iload_n 1, 1, 0), (71, .iconst 0, 1, 0), (72, .iastore, 1, 0), (73, .aload_n 0, 1, 0), (74, .getfield 34, 3, 1209), (77, .iload_n 1, 1, 0), (78, .iconst 0, 1, 0),
  (79, .iastore, 1, 0), (80, .aload_n 0, 1, 0), (81, .bipush 12, 2, 0), (83, .invokevirtual 260, 3, 186), (86, .ifCond .eq 46, 3, 0), (89, .aload_n 0, 1, 0), (90, .invokevirtual 204, 3, 171), (93, .aload_n 0, 1, 0),
  (94, .bipush 45, 2, 0), (96, .invokevirtual 254, 3, 187), (99, .istore_n 2, 1, 0), (100, .iload_n 2, 1, 0), (101, .ifCond .eq 7, 3, 0), (104, .aload_n 0, 1, 0), (105, .invokevirtual 204, 3, 171), (108, .aload_n 0, 1, 0),
  (109, .iconst 0, 1, 0), (110, .bipush 9, 2, 0), (112, .invokevirtual 231, 3, 185), (115, .istore_n 3, 1, 0), (116, .aload_n 0, 1, 0), (117, .getfield 28, 3, 1207), (120, .iload_n 1, 1, 0), (121, .iload_n 2, 1, 0),
  (122, .ifCond .eq 8, 3, 0), (125, .iload_n 3, 1, 0), (126, .ineg, 1, 0), (127, .goto 4, 3, 0), (130, .iload_n 3, 1, 0), (131, .iastore, 1, 0), (132, .aload_n 0, 1, 0), (133, .iconst 0, 1, 0),
  (134, .aload_n 0, 1, 0), (135, .iconst 0, 1, 0), (136, .invokevirtual 214, 3, 181), (139, .iconst 1, 1, 0), (140, .iadd, 1, 0), (141, .invokevirtual 235, 3, 170), (144, .return_, 1, 0)]
def pT_183 : List pEn := [(0, .aload_n 0, 1, 0), (1, .getfield 198, 3, 1231), (4, .ifCond .eq 5, 3, 0), (7, .iconst 0, 1, 0), (8, .ireturn, 1, 0), (9, .aload_n 0, 1, 0), (10, .getfield 163, 3, 1229), (13, .iconst 1, 1, 0),
  (14, .if_icmp .eq 11, 3, 0), (17, .aload_n 0, 1, 0), (18, .iconst 1, 1, 0), (19, .invokevirtual 207, 3, 179), (22, .goto 22, 3, 0), (25, .aload_n 1, 1, 0), (26, .iload_n 2, 1, 0), (27, .iload_n 3, 1, 0),
  (28, .aload_n 0, 1, 0), (29, .getfield 173, 3, 1230), (32, .invokestatic 210, 3, 1184), (35, .iconst (-1), 1, 0), (36, .if_icmp .eq 8, 3, 0), (39, .aload_n 0, 1, 0), (40, .iconst 3, 1, 0), (41, .invokevirtual 207, 3, 179),
  (44, .aload_n 0, 1, 0), (45, .getfield 198, 3, 1231), (48, .ifCond .eq 5, 3, 0), (51, .iconst 0, 1, 0), (52, .ireturn, 1, 0), (53, .aload_n 0, 1, 0), (54, .getfield 173, 3, 1230), (57, .istore 4, 2, 0),
  (59, .aload_n 0, 1, 0), (60, .invokevirtual 204, 3, 171), (63, .iload 4, 2, 0), (65, .ireturn, 1, 0)]
def pT_184 : List pEn := [(0, .iconst 0, 1, 0), (1, .istore 4, 2, 0), (3, .iload 4, 2, 0), (5, .iload_n 2, 1, 0), (6, .if_icmp .ge 22, 3, 0), (9, .aload_n 0, 1, 0), (10, .iload_n 1, 1, 0), (11, .iload 4, 2, 0),
  (13, .iadd, 1, 0), (14, .iaload, 1, 0), (15, .iload_n 3, 1, 0), (16, .if_icmp .ne 6, 3, 0), (19, .iload 4, 2, 0), (21, .ireturn, 1, 0), (22, .iinc 4 1, 3, 0), (25, .goto (-22), 3, 0),
  (28, .iconst (-1), 1, 0), (29, .ireturn, 1, 0)]
def pT_185 : List pEn := [(0, .aload_n 0, 1, 0), (1, .getfield 198, 3, 1231), (4, .ifCond .eq 5, 3, 0), (7, .iload_n 1, 1, 0), (8, .ireturn, 1, 0), (9, .aload_n 0, 1, 0), (10, .getfield 163, 3, 1229), (13, .iconst 2, 1, 0),
  (14, .if_icmp .eq 11, 3, 0), (17, .aload_n 0, 1, 0), (18, .iconst 1, 1, 0), (19, .invokevirtual 207, 3, 179), (22, .goto 24, 3, 0), (25, .aload_n 0, 1, 0), (26, .getfield 173, 3, 1230), (29, .iload_n 1, 1, 0),
  (30, .if_icmp .lt 11, 3, 0), (33, .aload_n 0, 1, 0), (34, .getfield 173, 3, 1230), (37, .iload_n 2, 1, 0), (38, .if_icmp .le 8, 3, 0), (41, .aload_n 0, 1, 0), (42, .iconst 2, 1, 0), (43, .invokevirtual 207, 3, 179),
  (46, .aload_n 0, 1, 0), (47, .getfield 198, 3, 1231), (50, .ifCond .eq 5, 3, 0), (53, .iload_n 1, 1, 0), (54, .ireturn, 1, 0), (55, .aload_n 0, 1, 0), (56, .getfield 173, 3, 1230), (59, .istore_n 3, 1, 0),
  (60, .aload_n 0, 1, 0), (61, .invokevirtual 204, 3, 171), (64, .iload_n 3, 1, 0), (65, .ireturn, 1, 0)]
def pT_186 : List pEn := [(0, .aload_n 0, 1, 0), (1, .getfield 198, 3, 1231), (4, .ifCond .ne 22, 3, 0), (7, .aload_n 0, 1, 0), (8, .getfield 163, 3, 1229), (11, .ifCond .ne 15, 3, 0), (14, .aload_n 0, 1, 0), (15, .getfield 173, 3, 1230),
  (18, .iload_n 1, 1, 0), (19, .if_icmp .ne 7, 3, 0), (22, .iconst 1, 1, 0), (23, .goto 4, 3, 0), (26, .iconst 0, 1, 0), (27, .ireturn, 1, 0)]
def pT_187 : List pEn := [(0, .aload_n 0, 1, 0), (1, .getfield 198, 3, 1231), (4, .ifCond .ne 23, 3, 0), (7, .aload_n 0, 1, 0), (8, .getfield 163, 3, 1229), (11, .iconst 3, 1, 0), (12, .if_icmp .ne 15, 3, 0), (15, .aload_n 0, 1, 0),
  (16, .getfield 173, 3, 1230), (19, .iload_n 1, 1, 0), (20, .if_icmp .ne 7, 3, 0), (23, .iconst 1, 1, 0), (24, .goto 4, 3, 0), (27, .iconst 0, 1, 0), (28, .ireturn, 1, 0)]
def pT_188 : List pEn := [(0, .aload_n 0, 1, 0), (1, .getfield 163, 3, 1229), (4, .iconst 1, 1, 0), (5, .if_icmp .eq 11, 3, 0), (8, .aload_n 0, 1, 0), (9, .iconst 1, 1, 0), (10, .invokevirtual 207, 3, 179), (13, .goto 30, 3, 0),
  (16, .aload_n 0, 1, 0), (17, .getfield 18, 3, 1204), (20, .bipush 9, 2, 0), (22, .aload_n 0, 1, 0), (23, .iconst 0, 1, 0), (24, .invokevirtual 214, 3, 181), (27, .aload_n 0, 1, 0), (28, .getfield 173, 3, 1230),
  (31, .invokestatic 210, 3, 1184), (34, .iconst (-1), 1, 0), (35, .if_icmp .ne 8, 3, 0), (38, .aload_n 0, 1, 0), (39, .iconst 4, 1, 0), (40, .invokevirtual 207, 3, 179), (43, .aload_n 0, 1, 0), (44, .getfield 198, 3, 1231),
  (47, .ifCond .eq 5, 3, 0), (50, .iconst 0, 1, 0), (51, .ireturn, 1, 0), (52, .aload_n 0, 1, 0), (53, .getfield 18, 3, 1204), (56, .bipush 9, 2, 0), (58, .aload_n 0, 1, 0), (59, .iconst 0, 1, 0),
  (60, .invokevirtual 214, 3, 181), (63, .aload_n 0, 1, 0), (64, .getfield 173, 3, 1230), (67, .invokestatic 210, 3, 1184), (70, .istore_n 2, 1, 0), (71, .iload_n 1, 1, 0), (72, .iload_n 2, 1, 0), (73, .ishr, 1, 0),
  (74, .iconst 1, 1, 0), (75, .iand, 1, 0), (76, .iconst 1, 1, 0), (77, .if_icmp .ne 8, 3, 0), (80, .aload_n 0, 1, 0), (81, .iconst 3, 1, 0), (82, .invokevirtual 207, 3, 179), (85, .aload_n 0, 1, 0),
  (86, .invokevirtual 263, 3, 189), (89, .iload_n 2, 1, 0), (90, .ireturn, 1, 0)]
def pT_189 : List pEn := [(0, .aload_n 0, 1, 0), (1, .getfield 198, 3, 1231), (4, .ifCond .ne 7, 3, 0), (7, .aload_n 0, 1, 0), (8, .invokevirtual 204, 3, 171), (11, .return_, 1, 0)]
def pT_190 : List pEn := [(0, .iconst 0, 1, 0), (1, .istore_n 1, 1, 0), (2, .aload_n 0, 1, 0), (3, .getfield 163, 3, 1229), (6, .iconst 2, 1, 0), (7, .if_icmp .ne 14, 3, 0), (10, .iload_n 1, 1, 0), (11, .bipush 24, 2, 0),
  (13, .if_icmp .ne 8, 3, 0), (16, .aload_n 0, 1, 0), (17, .iconst 2, 1, 0), (18, .invokevirtual 207, 3, 179), (21, .aload_n 0, 1, 0), (22, .iconst 0, 1, 0), (23, .bipush 9, 2, 0), (25, .invokevirtual 231, 3, 185),
  (28, .istore_n 2, 1, 0), (29, .aload_n 0, 1, 0), (30, .getfield 198, 3, 1231), (33, .ifCond .eq 4, 3, 0), (36, .return_, 1, 0), (37, .aload_n 0, 1, 0), (38, .getfield 58, 3, 1217), (41, .bipush 24, 2, 0),
  (43, .iload_n 1, 1, 0), (44, .iadd, 1, 0), (45, .iload_n 2, 1, 0), (46, .iastore, 1, 0), (47, .iinc 1 1, 3, 0), (50, .aload_n 0, 1, 0), (51, .getfield 163, 3, 1229), (54, .iconst 2, 1, 0),
  (55, .if_icmp .eq (-53), 3, 0), (58, .return_, 1, 0)]
def pT_191 : List pEn := [(0, .aload_n 0, 1, 0), (1, .getfield 163, 3, 1229), (4, .ifCond .ne 21, 3, 0), (7, .aload_n 0, 1, 0), (8, .getfield 173, 3, 1230), (11, .bipush 13, 2, 0), (13, .if_icmp .eq 17, 3, 0), (16, .aload_n 0, 1, 0),
  (17, .getfield 173, 3, 1230), (20, .bipush 14, 2, 0), (22, .if_icmp .eq 8, 3, 0), (25, .aload_n 0, 1, 0), (26, .iconst 1, 1, 0), (27, .invokevirtual 207, 3, 179), (30, .aload_n 0, 1, 0), (31, .getfield 173, 3, 1230),
  (34, .bipush 13, 2, 0), (36, .isub, 1, 0), (37, .istore_n 1, 1, 0), (38, .aload_n 0, 1, 0), (39, .getfield 198, 3, 1231), (42, .ifCond .ne 23, 3, 0), (45, .aload_n 0, 1, 0), (46, .getfield 221, 3, 1222),
  (49, .bipush 16, 2, 0), (51, .iload_n 1, 1, 0), (52, .iadd, 1, 0), (53, .ishr, 1, 0), (54, .iconst 1, 1, 0), (55, .iand, 1, 0), (56, .iconst 1, 1, 0), (57, .if_icmp .ne 8, 3, 0),
  (60, .aload_n 0, 1, 0), (61, .iconst 3, 1, 0), (62, .invokevirtual 207, 3, 179), (65, .aload_n 0, 1, 0), (66, .getfield 198, 3, 1231), (69, .ifCond .eq 4, 3, 0), (72, .return_, 1, 0), (73, .aload_n 0, 1, 0),
  (74, .dup, 1, 0), (75, .getfield 221, 3, 1222), (78, .iconst 1, 1, 0), (79, .bipush 16, 2, 0), (81, .iload_n 1, 1, 0), (82, .iadd, 1, 0), (83, .ishl, 1, 0), (84, .ior, 1, 0),
  (85, .putfield 221, 3, 1222), (88, .aload_n 0, 1, 0), (89, .invokevirtual 204, 3, 171), (92, .aload_n 0, 1, 0), (93, .getfield 61, 3, 1218), (96, .iconst 2, 1, 0), (97, .iload_n 1, 1, 0), (98, .iadd, 1, 0),
  (99, .aload_n 0, 1, 0), (100, .bipush 8, 2, 0), (102, .invokevirtual 214, 3, 181), (105, .iastore, 1, 0), (106, .aload_n 0, 1, 0), (107, .invokevirtual 266, 3, 192), (110, .aload_n 0, 1, 0), (111, .getfield 64, 3, 1219),
  (114, .iconst 2, 1, 0), (115, .iload_n 1, 1, 0), (116, .iadd, 1, 0), (117, .aload_n 0, 1, 0), (118, .bipush 8, 2, 0), (120, .invokevirtual 214, 3, 181), (123, .iastore, 1, 0), (124, .return_, 1, 0)]
def pT_192 : List pEn := [(0, .aload_n 0, 1, 0), (1, .invokevirtual 272, 3, 193), (4, .aload_n 0, 1, 0), (5, .bipush 15, 2, 0), (7, .invokevirtual 260, 3, 186), (10, .ifCond .eq 26, 3, 0), (13, .aload_n 0, 1, 0), (14, .invokevirtual 275, 3, 195),
  (17, .aload_n 0, 1, 0), (18, .invokevirtual 263, 3, 189), (21, .aload_n 0, 1, 0), (22, .invokevirtual 272, 3, 193), (25, .aload_n 0, 1, 0), (26, .iconst 2, 1, 0), (27, .sipush 262, 3, 0), (30, .invokevirtual 278, 3, 196),
  (33, .goto (-29), 3, 0), (36, .return_, 1, 0)]
def pT_193 : List pEn := [(0, .aload_n 0, 1, 0), (1, .invokevirtual 281, 3, 194), (4, .aload_n 0, 1, 0), (5, .bipush 16, 2, 0), (7, .invokevirtual 260, 3, 186), (10, .ifCond .eq 26, 3, 0), (13, .aload_n 0, 1, 0), (14, .invokevirtual 275, 3, 195),
  (17, .aload_n 0, 1, 0), (18, .invokevirtual 263, 3, 189), (21, .aload_n 0, 1, 0), (22, .invokevirtual 281, 3, 194), (25, .aload_n 0, 1, 0), (26, .iconst 2, 1, 0), (27, .sipush 261, 3, 0), (30, .invokevirtual 278, 3, 196),
  (33, .goto (-29), 3, 0), (36, .return_, 1, 0)]
def pT_194 : List pEn := [(0, .aload_n 0, 1, 0), (1, .bipush 17, 2, 0), (3, .invokevirtual 260, 3, 186), (6, .ifCond .eq 24, 3, 0), (9, .aload_n 0, 1, 0), (10, .invokevirtual 275, 3, 195), (13, .aload_n 0, 1, 0), (14, .invokevirtual 263, 3, 189),
  (17, .aload_n 0, 1, 0), (18, .invokevirtual 281, 3, 194), (21, .aload_n 0, 1, 0), (22, .iconst 2, 1, 0), (23, .sipush 260, 3, 0), (26, .invokevirtual 278, 3, 196), (29, .return_, 1, 0), (30, .aload_n 0, 1, 0),
  (31, .invokevirtual 284, 3, 197), (34, .aload_n 0, 1, 0), (35, .getfield 198, 3, 1231), (38, .ifCond .ne 48, 3, 0), (41, .aload_n 0, 1, 0), (42, .getfield 163, 3, 1229), (45, .iconst 3, 1, 0), (46, .if_icmp .ne 40, 3, 0),
  (49, .aload_n 0, 1, 0), (50, .getfield 173, 3, 1230), (53, .bipush 60, 2, 0), (55, .if_icmp .eq 32, 3, 0), (58, .aload_n 0, 1, 0), (59, .getfield 173, 3, 1230), (62, .bipush 62, 2, 0), (64, .if_icmp .eq 23, 3, 0),
  (67, .aload_n 0, 1, 0), (68, .getfield 173, 3, 1230), (71, .bipush 61, 2, 0), (73, .if_icmp .eq 14, 3, 0), (76, .aload_n 0, 1, 0), (77, .getfield 173, 3, 1230), (80, .sipush 256, 3, 0), (83, .if_icmp .ge 4, 3, 0),
  (86, .return_, 1, 0), (87, .aload_n 0, 1, 0), (88, .getfield 173, 3, 1230), (91, .istore_n 1, 1, 0), (92, .aload_n 0, 1, 0), (93, .invokevirtual 275, 3, 195), (96, .aload_n 0, 1, 0), (97, .invokevirtual 263, 3, 189),
  (100, .aload_n 0, 1, 0), (101, .invokevirtual 284, 3, 197), (104, .aload_n 0, 1, 0), (105, .iconst 2, 1, 0), (106, .iload_n 1, 1, 0), (107, .invokevirtual 278, 3, 196), (110, .return_, 1, 0)]
def pT_195 : List pEn := [(0, .aload_n 0, 1, 0), (1, .getfield 198, 3, 1231), (4, .ifCond .eq 4, 3, 0), (7, .return_, 1, 0), (8, .aload_n 0, 1, 0), (9, .getfield 269, 3, 1236), (12, .bipush 64, 2, 0), (14, .if_icmp .ne 11, 3, 0),
  (17, .aload_n 0, 1, 0), (18, .iconst 2, 1, 0), (19, .invokevirtual 207, 3, 179), (22, .goto 13, 3, 0), (25, .aload_n 0, 1, 0), (26, .dup, 1, 0), (27, .getfield 269, 3, 1236), (30, .iconst 1, 1, 0),
  (31, .iadd, 1, 0), (32, .putfield 269, 3, 1236), (35, .return_, 1, 0)]
def pT_196 : List pEn := [(0, .aload_n 0, 1, 0), (1, .getfield 198, 3, 1231), (4, .ifCond .eq 4, 3, 0), (7, .return_, 1, 0), (8, .aload_n 0, 1, 0), (9, .getfield 67, 3, 1220), (12, .bipush 64, 2, 0), (14, .aload_n 0, 1, 0),
  (15, .bipush 8, 2, 0), (17, .invokevirtual 214, 3, 181), (20, .iadd, 1, 0), (21, .iload_n 1, 1, 0), (22, .iastore, 1, 0), (23, .aload_n 0, 1, 0), (24, .getfield 70, 3, 1221), (27, .bipush 64, 2, 0),
  (29, .aload_n 0, 1, 0), (30, .bipush 8, 2, 0), (32, .invokevirtual 214, 3, 181), (35, .iadd, 1, 0), (36, .iload_n 2, 1, 0), (37, .iastore, 1, 0), (38, .aload_n 0, 1, 0), (39, .bipush 8, 2, 0),
  (41, .aload_n 0, 1, 0), (42, .bipush 8, 2, 0), (44, .invokevirtual 214, 3, 181), (47, .iconst 1, 1, 0), (48, .iadd, 1, 0), (49, .invokevirtual 235, 3, 170), (52, .return_, 1, 0)]
def pT_197 : List pEn := [(0, .aload_n 0, 1, 0), (1, .invokevirtual 287, 3, 198), (4, .aload_n 0, 1, 0), (5, .bipush 43, 2, 0), (7, .invokevirtual 254, 3, 187), (10, .ifCond .ne 12, 3, 0), (13, .aload_n 0, 1, 0), (14, .bipush 45, 2, 0),
  (16, .invokevirtual 254, 3, 187), (19, .ifCond .eq 29, 3, 0), (22, .aload_n 0, 1, 0), (23, .getfield 173, 3, 1230), (26, .istore_n 1, 1, 0), (27, .aload_n 0, 1, 0), (28, .invokevirtual 275, 3, 195), (31, .aload_n 0, 1, 0),
  (32, .invokevirtual 263, 3, 189), (35, .aload_n 0, 1, 0), (36, .invokevirtual 287, 3, 198), (39, .aload_n 0, 1, 0), (40, .iconst 2, 1, 0), (41, .iload_n 1, 1, 0), (42, .invokevirtual 278, 3, 196), (45, .goto (-41), 3, 0),
  (48, .return_, 1, 0)]
def pT_198 : List pEn := [(0, .aload_n 0, 1, 0), (1, .invokevirtual 290, 3, 199), (4, .aload_n 0, 1, 0), (5, .bipush 42, 2, 0), (7, .invokevirtual 254, 3, 187), (10, .ifCond .ne 12, 3, 0), (13, .aload_n 0, 1, 0), (14, .bipush 47, 2, 0),
  (16, .invokevirtual 254, 3, 187), (19, .ifCond .eq 29, 3, 0), (22, .aload_n 0, 1, 0), (23, .getfield 173, 3, 1230), (26, .istore_n 1, 1, 0), (27, .aload_n 0, 1, 0), (28, .invokevirtual 275, 3, 195), (31, .aload_n 0, 1, 0),
  (32, .invokevirtual 263, 3, 189), (35, .aload_n 0, 1, 0), (36, .invokevirtual 290, 3, 199), (39, .aload_n 0, 1, 0), (40, .iconst 2, 1, 0), (41, .iload_n 1, 1, 0), (42, .invokevirtual 278, 3, 196), (45, .goto (-41), 3, 0),
  (48, .return_, 1, 0)]
def pT_199 : List pEn := [(0, .aload_n 0, 1, 0), (1, .getfield 198, 3, 1231), (4, .ifCond .eq 4, 3, 0), (7, .return_, 1, 0), (8, .aload_n 0, 1, 0), (9, .bipush 40, 2, 0), (11, .invokevirtual 254, 3, 187), (14, .ifCond .eq 87, 3, 0),
  (17, .aload_n 0, 1, 0), (18, .getfield 293, 3, 1235), (21, .bipush 8, 2, 0), (23, .if_icmp .ne 8, 3, 0), (26, .aload_n 0, 1, 0), (27, .iconst 2, 1, 0), (28, .invokevirtual 207, 3, 179), (31, .aload_n 0, 1, 0),
  (32, .getfield 198, 3, 1231), (35, .ifCond .eq 4, 3, 0), (38, .return_, 1, 0), (39, .aload_n 0, 1, 0), (40, .dup, 1, 0), (41, .getfield 293, 3, 1235), (44, .iconst 1, 1, 0), (45, .iadd, 1, 0),
  (46, .putfield 293, 3, 1235), (49, .aload_n 0, 1, 0), (50, .invokevirtual 204, 3, 171), (53, .aload_n 0, 1, 0), (54, .invokevirtual 266, 3, 192), (57, .aload_n 0, 1, 0), (58, .getfield 198, 3, 1231), (61, .ifCond .ne 17, 3, 0),
  (64, .aload_n 0, 1, 0), (65, .bipush 41, 2, 0), (67, .invokevirtual 254, 3, 187), (70, .ifCond .ne 8, 3, 0), (73, .aload_n 0, 1, 0), (74, .iconst 1, 1, 0), (75, .invokevirtual 207, 3, 179), (78, .aload_n 0, 1, 0),
  (79, .getfield 198, 3, 1231), (82, .ifCond .eq 4, 3, 0), (85, .return_, 1, 0), (86, .aload_n 0, 1, 0), (87, .dup, 1, 0), (88, .getfield 293, 3, 1235), (91, .iconst 1, 1, 0), (92, .isub, 1, 0),
  (93, .putfield 293, 3, 1235), (96, .aload_n 0, 1, 0), (97, .invokevirtual 204, 3, 171), (100, .return_, 1, 0), (101, .aload_n 0, 1, 0), (102, .getfield 163, 3, 1229), (105, .iconst 2, 1, 0), (106, .if_icmp .ne 7, 3, 0),
  (109, .iconst 1, 1, 0), (110, .goto 4, 3, 0), (113, .iconst 0, 1, 0), (114, .istore_n 1, 1, 0), (115, .iload_n 1, 1, 0), (116, .ifCond .eq 21, 3, 0), (119, .aload_n 0, 1, 0), (120, .getfield 173, 3, 1230),
  (123, .sipush 9999, 3, 0), (126, .if_icmp .le 11, 3, 0), (129, .aload_n 0, 1, 0), (130, .iconst 2, 1, 0), (131, .invokevirtual 207, 3, 179), (134, .goto 28, 3, 0), (137, .iload_n 1, 1, 0), (138, .ifCond .ne 24, 3, 0),
  (141, .aload_n 0, 1, 0), (142, .getfield 163, 3, 1229), (145, .ifCond .ne 12, 3, 0), (148, .aload_n 0, 1, 0), (149, .getfield 173, 3, 1230), (152, .bipush 18, 2, 0), (154, .if_icmp .ge 8, 3, 0), (157, .aload_n 0, 1, 0),
  (158, .iconst 1, 1, 0), (159, .invokevirtual 207, 3, 179), (162, .aload_n 0, 1, 0), (163, .invokevirtual 275, 3, 195), (166, .aload_n 0, 1, 0), (167, .iload_n 1, 1, 0), (168, .ifCond .eq 7, 3, 0), (171, .iconst 0, 1, 0),
  (172, .goto 4, 3, 0), (175, .iconst 1, 1, 0), (176, .iload_n 1, 1, 0), (177, .ifCond .eq 10, 3, 0), (180, .aload_n 0, 1, 0), (181, .getfield 173, 3, 1230), (184, .goto 10, 3, 0), (187, .aload_n 0, 1, 0),
  (188, .getfield 173, 3, 1230), (191, .bipush 18, 2, 0), (193, .isub, 1, 0), (194, .invokevirtual 278, 3, 196), (197, .aload_n 0, 1, 0), (198, .invokevirtual 263, 3, 189), (201, .return_, 1, 0)]
def pT_200 : List pEn := [(0, .aload_n 0, 1, 0), (1, .arraylength, 1, 0), (2, .iconst 2, 1, 0), (3, .idiv, 1, 0), (4, .istore_n 1, 1, 0), (5, .iconst 0, 1, 0), (6, .istore_n 2, 1, 0), (7, .iload_n 2, 1, 0),
  (8, .iload_n 1, 1, 0), (9, .if_icmp .ge 17, 3, 0), (12, .aload_n 0, 1, 0), (13, .iload_n 2, 1, 0), (14, .aload_n 0, 1, 0), (15, .iload_n 1, 1, 0), (16, .iload_n 2, 1, 0), (17, .iadd, 1, 0),
  (18, .iaload, 1, 0), (19, .iastore, 1, 0), (20, .iinc 2 1, 3, 0), (23, .goto (-16), 3, 0), (26, .return_, 1, 0)]
def pT_201 : List pEn := [(0, .aload_n 0, 1, 0), (1, .iconst 0, 1, 0), (2, .putfield 144, 3, 1200), (5, .iload_n 1, 1, 0), (6, .ifCond .ne 10, 3, 0), (9, .aload_n 0, 1, 0), (10, .getfield 299, 3, 1233), (13, .goto 16, 3, 0),
  (16, .iload_n 1, 1, 0), (17, .iconst 1, 1, 0), (18, .if_icmp .ne 10, 3, 0), (21, .aload_n 0, 1, 0), (22, .getfield 73, 3, 1234), (25, .goto 4, 3, 0), (28, .iconst (-1), 1, 0), (29, .ireturn, 1, 0)]
def pT_202 : List pEn := [(0, .aload_n 0, 1, 0), (1, .iconst 0, 1, 0), (2, .putfield 144, 3, 1200), (5, .iload_n 1, 1, 0), (6, .tableswitch 74 0 2 #[26, 42, 58], 26, 0), (32, .aload_n 0, 1, 0), (33, .getfield 18, 3, 1204), (36, .iconst 0, 1, 0),
  (37, .aload_n 0, 1, 0), (38, .getfield 15, 3, 1203), (41, .iconst 0, 1, 0), (42, .iaload, 1, 0), (43, .iload_n 2, 1, 0), (44, .invokestatic 210, 3, 1184), (47, .ireturn, 1, 0), (48, .aload_n 0, 1, 0),
  (49, .getfield 37, 3, 1210), (52, .iconst 0, 1, 0), (53, .aload_n 0, 1, 0), (54, .getfield 15, 3, 1203), (57, .iconst 1, 1, 0), (58, .iaload, 1, 0), (59, .iload_n 2, 1, 0), (60, .invokestatic 210, 3, 1184),
  (63, .ireturn, 1, 0), (64, .aload_n 0, 1, 0), (65, .getfield 49, 3, 1214), (68, .iconst 0, 1, 0), (69, .aload_n 0, 1, 0), (70, .getfield 15, 3, 1203), (73, .iconst 2, 1, 0), (74, .iaload, 1, 0),
  (75, .iload_n 2, 1, 0), (76, .invokestatic 210, 3, 1184), (79, .ireturn, 1, 0), (80, .iconst (-1), 1, 0), (81, .ireturn, 1, 0)]
def pT_203 : List pEn := [(0, .aload_n 0, 1, 0), (1, .aload_n 0, 1, 0), (2, .iload_n 1, 1, 0), (3, .invokevirtual 321, 3, 204), (6, .ifCond .ne 7, 3, 0), (9, .iconst 1, 1, 0), (10, .goto 17, 3, 0), (13, .iload_n 2, 1, 0),
  (14, .ifCond .lt 8, 3, 0), (17, .iload_n 2, 1, 0), (18, .iconst 5, 1, 0), (19, .if_icmp .le 7, 3, 0), (22, .iconst 2, 1, 0), (23, .goto 4, 3, 0), (26, .iconst 0, 1, 0), (27, .putfield 144, 3, 1200),
  (30, .aload_n 0, 1, 0), (31, .getfield 144, 3, 1200), (34, .ifCond .eq 5, 3, 0), (37, .iconst 0, 1, 0), (38, .ireturn, 1, 0), (39, .iload_n 2, 1, 0), (40, .tableswitch 79 0 4 #[36, 43, 58, 65, 72], 36, 0), (76, .aload_n 0, 1, 0),
  (77, .getfield 21, 3, 1205), (80, .iload_n 1, 1, 0), (81, .iaload, 1, 0), (82, .ireturn, 1, 0), (83, .aload_n 0, 1, 0), (84, .getfield 24, 3, 1206), (87, .iload_n 1, 1, 0), (88, .baload, 1, 0),
  (89, .ifCond .eq 7, 3, 0), (92, .iconst 1, 1, 0), (93, .goto 4, 3, 0), (96, .iconst 0, 1, 0), (97, .ireturn, 1, 0), (98, .aload_n 0, 1, 0), (99, .getfield 28, 3, 1207), (102, .iload_n 1, 1, 0),
  (103, .iaload, 1, 0), (104, .ireturn, 1, 0), (105, .aload_n 0, 1, 0), (106, .getfield 98, 3, 1244), (109, .iload_n 1, 1, 0), (110, .iaload, 1, 0), (111, .ireturn, 1, 0), (112, .aload_n 0, 1, 0),
  (113, .getfield 34, 3, 1209), (116, .iload_n 1, 1, 0), (117, .iaload, 1, 0), (118, .ireturn, 1, 0), (119, .aload_n 0, 1, 0), (120, .iload_n 1, 1, 0), (121, .invokevirtual 324, 3, 205), (124, .ireturn, 1, 0)]
def pT_204 : List pEn := [(0, .iload_n 1, 1, 0), (1, .ifCond .lt 17, 3, 0), (4, .iload_n 1, 1, 0), (5, .aload_n 0, 1, 0), (6, .getfield 15, 3, 1203), (9, .iconst 0, 1, 0), (10, .iaload, 1, 0), (11, .if_icmp .ge 7, 3, 0),
  (14, .iconst 1, 1, 0), (15, .goto 4, 3, 0), (18, .iconst 0, 1, 0), (19, .ireturn, 1, 0)]
def pT_205 : List pEn := [(0, .iload_n 1, 1, 0), (1, .ifCond .ne 7, 3, 0), (4, .iconst 0, 1, 0), (5, .goto 22, 3, 0), (8, .iconst 0, 1, 0), (9, .aload_n 0, 1, 0), (10, .getfield 21, 3, 1205), (13, .iload_n 1, 1, 0),
  (14, .iaload, 1, 0), (15, .aload_n 0, 1, 0), (16, .getfield 21, 3, 1205), (19, .iload_n 1, 1, 0), (20, .iconst 1, 1, 0), (21, .isub, 1, 0), (22, .iaload, 1, 0), (23, .isub, 1, 0),
  (24, .invokestatic 316, 3, 1083), (27, .ireturn, 1, 0)]
def pT_206 : List pEn := [(0, .aload_n 0, 1, 0), (1, .iconst 0, 1, 0), (2, .putfield 144, 3, 1200), (5, .aload_n 0, 1, 0), (6, .iload_n 1, 1, 0), (7, .invokevirtual 327, 3, 207), (10, .ifCond .ne 5, 3, 0), (13, .iconst (-1), 1, 0),
  (14, .ireturn, 1, 0), (15, .iload_n 2, 1, 0), (16, .ifCond .ne 12, 3, 0), (19, .aload_n 0, 1, 0), (20, .getfield 40, 3, 1211), (23, .iload_n 1, 1, 0), (24, .iaload, 1, 0), (25, .goto 50, 3, 0),
  (28, .iload_n 2, 1, 0), (29, .iconst 1, 1, 0), (30, .if_icmp .ne 12, 3, 0), (33, .aload_n 0, 1, 0), (34, .getfield 43, 3, 1212), (37, .iload_n 1, 1, 0), (38, .iaload, 1, 0), (39, .goto 36, 3, 0),
  (42, .iload_n 2, 1, 0), (43, .iconst 2, 1, 0), (44, .if_icmp .ne 12, 3, 0), (47, .aload_n 0, 1, 0), (48, .getfield 46, 3, 1213), (51, .iload_n 1, 1, 0), (52, .iaload, 1, 0), (53, .goto 22, 3, 0),
  (56, .iload_n 2, 1, 0), (57, .iconst 3, 1, 0), (58, .if_icmp .ne 16, 3, 0), (61, .aload_n 0, 1, 0), (62, .getfield 86, 3, 1240), (65, .iconst 0, 1, 0), (66, .iaload, 1, 0), (67, .iload_n 1, 1, 0),
  (68, .ishr, 1, 0), (69, .iconst 1, 1, 0), (70, .iand, 1, 0), (71, .goto 4, 3, 0), (74, .iconst (-1), 1, 0), (75, .ireturn, 1, 0)]
def pT_207 : List pEn := [(0, .iload_n 1, 1, 0), (1, .ifCond .lt 17, 3, 0), (4, .iload_n 1, 1, 0), (5, .aload_n 0, 1, 0), (6, .getfield 15, 3, 1203), (9, .iconst 1, 1, 0), (10, .iaload, 1, 0), (11, .if_icmp .ge 7, 3, 0),
  (14, .iconst 1, 1, 0), (15, .goto 4, 3, 0), (18, .iconst 0, 1, 0), (19, .ireturn, 1, 0)]
def pT_208 : List pEn := [(0, .aload_n 0, 1, 0), (1, .iconst 0, 1, 0), (2, .putfield 144, 3, 1200), (5, .aload_n 0, 1, 0), (6, .iload_n 1, 1, 0), (7, .invokevirtual 330, 3, 209), (10, .ifCond .ne 5, 3, 0), (13, .iconst (-1), 1, 0),
  (14, .ireturn, 1, 0), (15, .iload_n 2, 1, 0), (16, .ifCond .ne 12, 3, 0), (19, .aload_n 0, 1, 0), (20, .getfield 52, 3, 1215), (23, .iload_n 1, 1, 0), (24, .iaload, 1, 0), (25, .goto 38, 3, 0),
  (28, .iload_n 2, 1, 0), (29, .iconst 1, 1, 0), (30, .if_icmp .ne 12, 3, 0), (33, .aload_n 0, 1, 0), (34, .getfield 55, 3, 1216), (37, .iload_n 1, 1, 0), (38, .iaload, 1, 0), (39, .goto 24, 3, 0),
  (42, .iload_n 2, 1, 0), (43, .iconst 2, 1, 0), (44, .if_icmp .ne 18, 3, 0), (47, .aload_n 0, 1, 0), (48, .getfield 89, 3, 1241), (51, .iconst 0, 1, 0), (52, .iaload, 1, 0), (53, .iconst 2, 1, 0),
  (54, .iload_n 1, 1, 0), (55, .imul, 1, 0), (56, .ishr, 1, 0), (57, .iconst 3, 1, 0), (58, .iand, 1, 0), (59, .goto 4, 3, 0), (62, .iconst (-1), 1, 0), (63, .ireturn, 1, 0)]
def pT_209 : List pEn := [(0, .iload_n 1, 1, 0), (1, .ifCond .lt 17, 3, 0), (4, .iload_n 1, 1, 0), (5, .aload_n 0, 1, 0), (6, .getfield 15, 3, 1203), (9, .iconst 2, 1, 0), (10, .iaload, 1, 0), (11, .if_icmp .ge 7, 3, 0),
  (14, .iconst 1, 1, 0), (15, .goto 4, 3, 0), (18, .iconst 0, 1, 0), (19, .ireturn, 1, 0)]
def pT_210 : List pEn := [(0, .aload_n 0, 1, 0), (1, .iconst 0, 1, 0), (2, .putfield 144, 3, 1200), (5, .aload_n 0, 1, 0), (6, .iload_n 1, 1, 0), (7, .invokevirtual 330, 3, 209), (10, .ifCond .eq 28, 3, 0), (13, .aload_n 0, 1, 0),
  (14, .iload_n 2, 1, 0), (15, .invokevirtual 321, 3, 204), (18, .ifCond .eq 20, 3, 0), (21, .iload_n 3, 1, 0), (22, .invokestatic 384, 3, 1211), (25, .ifCond .eq 13, 3, 0), (28, .aload_n 0, 1, 0), (29, .iload_n 1, 1, 0),
  (30, .iload_n 2, 1, 0), (31, .iload_n 3, 1, 0), (32, .invokevirtual 378, 3, 212), (35, .goto 4, 3, 0), (38, .iconst (-1), 1, 0), (39, .ireturn, 1, 0)]
def pT_211 : List pEn := [(0, .iload_n 0, 1, 0), (1, .ifCond .lt 13, 3, 0), (4, .iload_n 0, 1, 0), (5, .bipush 24, 2, 0), (7, .if_icmp .ge 7, 3, 0), (10, .iconst 1, 1, 0), (11, .goto 4, 3, 0), (14, .iconst 0, 1, 0),
  (15, .ireturn, 1, 0)]
def pT_212 : List pEn := [(0, .aload_n 0, 1, 0), (1, .aload_n 0, 1, 0), (2, .getfield 52, 3, 1215), (5, .iload_n 1, 1, 0), (6, .iaload, 1, 0), (7, .iload_n 2, 1, 0), (8, .iload_n 3, 1, 0), (9, .invokevirtual 367, 3, 213),
  (12, .aload_n 0, 1, 0), (13, .iconst 0, 1, 0), (14, .bipush 99, 2, 0), (16, .aload_n 0, 1, 0), (17, .getfield 52, 3, 1215), (20, .iload_n 1, 1, 0), (21, .iaload, 1, 0), (22, .aload_n 0, 1, 0),
  (23, .getfield 21, 3, 1205), (26, .iload_n 2, 1, 0), (27, .iaload, 1, 0), (28, .imul, 1, 0), (29, .bipush 10, 2, 0), (31, .idiv, 1, 0), (32, .invokevirtual 371, 3, 214), (35, .ireturn, 1, 0)]
def pT_213 : List pEn := [(0, .aload_n 0, 1, 0), (1, .getfield 101, 3, 1247), (4, .iconst 0, 1, 0), (5, .iload_n 1, 1, 0), (6, .i2l, 1, 0), (7, .lastore, 1, 0), (8, .aload_n 0, 1, 0), (9, .getfield 101, 3, 1247),
  (12, .iconst 1, 1, 0), (13, .aload_n 0, 1, 0), (14, .getfield 21, 3, 1205), (17, .iload_n 2, 1, 0), (18, .iaload, 1, 0), (19, .i2l, 1, 0), (20, .lastore, 1, 0), (21, .aload_n 0, 1, 0),
  (22, .getfield 101, 3, 1247), (25, .iconst 2, 1, 0), (26, .aload_n 0, 1, 0), (27, .getfield 108, 3, 1250), (30, .ifCond .ne 9, 3, 0), (33, .ldc2_w 363, 3, 13), (36, .goto 10, 3, 0), (39, .aload_n 0, 1, 0),
  (40, .getfield 58, 3, 1217), (43, .iload_n 3, 1, 0), (44, .iaload, 1, 0), (45, .i2l, 1, 0), (46, .lastore, 1, 0), (47, .aload_n 0, 1, 0), (48, .getfield 101, 3, 1247), (51, .iconst 3, 1, 0),
  (52, .iload_n 3, 1, 0), (53, .i2l, 1, 0), (54, .lastore, 1, 0), (55, .aload_n 0, 1, 0), (56, .getfield 101, 3, 1247), (59, .iconst 4, 1, 0), (60, .aload_n 0, 1, 0), (61, .getfield 108, 3, 1250),
  (64, .iconst 1, 1, 0), (65, .if_icmp .ne 7, 3, 0), (68, .lconst 0, 1, 0), (69, .goto 13, 3, 0), (72, .aload_n 0, 1, 0), (73, .getfield 28, 3, 1207), (76, .iload_n 2, 1, 0), (77, .iaload, 1, 0),
  (78, .invokestatic 365, 3, 1081), (81, .i2l, 1, 0), (82, .lastore, 1, 0), (83, .aload_n 0, 1, 0), (84, .getfield 101, 3, 1247), (87, .iconst 5, 1, 0), (88, .aload_n 0, 1, 0), (89, .iload_n 2, 1, 0),
  (90, .invokevirtual 324, 3, 205), (93, .i2l, 1, 0), (94, .lastore, 1, 0), (95, .return_, 1, 0)]
def pT_214 : List pEn := [(0, .aload_n 0, 1, 0), (1, .iload_n 1, 1, 0), (2, .invokevirtual 351, 3, 215), (5, .ifCond .eq 11, 3, 0), (8, .aload_n 0, 1, 0), (9, .iload_n 1, 1, 0), (10, .invokevirtual 354, 3, 216), (13, .ifCond .ne 5, 3, 0),
  (16, .iload_n 3, 1, 0), (17, .ireturn, 1, 0), (18, .lconst 0, 1, 0), (19, .iload_n 2, 1, 0), (20, .i2l, 1, 0), (21, .aload_n 0, 1, 0), (22, .getfield 105, 3, 1248), (25, .iconst 0, 1, 0),
  (26, .laload, 1, 0), (27, .invokestatic 357, 3, 1086), (30, .invokestatic 361, 3, 1087), (33, .l2i, 1, 0), (34, .ireturn, 1, 0)]
def pT_215 : List pEn := [(0, .aload_n 0, 1, 0), (1, .getfield 64, 3, 1219), (4, .iload_n 1, 1, 0), (5, .iaload, 1, 0), (6, .aload_n 0, 1, 0), (7, .getfield 61, 3, 1218), (10, .iload_n 1, 1, 0), (11, .iaload, 1, 0),
  (12, .if_icmp .le 7, 3, 0), (15, .iconst 1, 1, 0), (16, .goto 4, 3, 0), (19, .iconst 0, 1, 0), (20, .ireturn, 1, 0)]
def pT_216 : List pEn := [(0, .aload_n 0, 1, 0), (1, .iconst 0, 1, 0), (2, .putfield 333, 3, 1249), (5, .aload_n 0, 1, 0), (6, .getfield 61, 3, 1218), (9, .iload_n 1, 1, 0), (10, .iaload, 1, 0), (11, .istore_n 2, 1, 0),
  (12, .iload_n 2, 1, 0), (13, .aload_n 0, 1, 0), (14, .getfield 64, 3, 1219), (17, .iload_n 1, 1, 0), (18, .iaload, 1, 0), (19, .if_icmp .ge 83, 3, 0), (22, .aload_n 0, 1, 0), (23, .getfield 67, 3, 1220),
  (26, .iload_n 2, 1, 0), (27, .iaload, 1, 0), (28, .iconst 2, 1, 0), (29, .if_icmp .ne 18, 3, 0), (32, .aload_n 0, 1, 0), (33, .aload_n 0, 1, 0), (34, .getfield 70, 3, 1221), (37, .iload_n 2, 1, 0),
  (38, .iaload, 1, 0), (39, .invokevirtual 348, 3, 217), (42, .ifCond .ne 54, 3, 0), (45, .iconst 0, 1, 0), (46, .ireturn, 1, 0), (47, .aload_n 0, 1, 0), (48, .getfield 105, 3, 1248), (51, .aload_n 0, 1, 0),
  (52, .getfield 333, 3, 1249), (55, .aload_n 0, 1, 0), (56, .getfield 67, 3, 1220), (59, .iload_n 2, 1, 0), (60, .iaload, 1, 0), (61, .ifCond .ne 13, 3, 0), (64, .aload_n 0, 1, 0), (65, .getfield 70, 3, 1221),
  (68, .iload_n 2, 1, 0), (69, .iaload, 1, 0), (70, .i2l, 1, 0), (71, .goto 14, 3, 0), (74, .aload_n 0, 1, 0), (75, .getfield 101, 3, 1247), (78, .aload_n 0, 1, 0), (79, .getfield 70, 3, 1221),
  (82, .iload_n 2, 1, 0), (83, .iaload, 1, 0), (84, .laload, 1, 0), (85, .lastore, 1, 0), (86, .aload_n 0, 1, 0), (87, .dup, 1, 0), (88, .getfield 333, 3, 1249), (91, .iconst 1, 1, 0),
  (92, .iadd, 1, 0), (93, .putfield 333, 3, 1249), (96, .iinc 2 1, 3, 0), (99, .goto (-87), 3, 0), (102, .iconst 1, 1, 0), (103, .ireturn, 1, 0)]
def pT_217 : List pEn := [(0, .aload_n 0, 1, 0), (1, .getfield 105, 3, 1248), (4, .aload_n 0, 1, 0), (5, .getfield 333, 3, 1249), (8, .iconst 1, 1, 0), (9, .isub, 1, 0), (10, .laload, 1, 0), (11, .lstore_n 2, 1, 0),
  (12, .iload_n 1, 1, 0), (13, .sipush 260, 3, 0), (16, .if_icmp .ne 30, 3, 0), (19, .aload_n 0, 1, 0), (20, .getfield 105, 3, 1248), (23, .aload_n 0, 1, 0), (24, .getfield 333, 3, 1249), (27, .iconst 1, 1, 0),
  (28, .isub, 1, 0), (29, .lload_n 2, 1, 0), (30, .lconst 0, 1, 0), (31, .lcmp, 1, 0), (32, .ifCond .ne 7, 3, 0), (35, .iconst 1, 1, 0), (36, .goto 4, 3, 0), (39, .iconst 0, 1, 0),
  (40, .invokestatic 336, 3, 1218), (43, .lastore, 1, 0), (44, .iconst 1, 1, 0), (45, .ireturn, 1, 0), (46, .aload_n 0, 1, 0), (47, .getfield 105, 3, 1248), (50, .aload_n 0, 1, 0), (51, .getfield 333, 3, 1249),
  (54, .iconst 2, 1, 0), (55, .isub, 1, 0), (56, .laload, 1, 0), (57, .lstore 4, 2, 0), (59, .aload_n 0, 1, 0), (60, .dup, 1, 0), (61, .getfield 333, 3, 1249), (64, .iconst 1, 1, 0),
  (65, .isub, 1, 0), (66, .putfield 333, 3, 1249), (69, .iload_n 1, 1, 0), (70, .lookupswitch 314 #[(42, 116), (43, 98), (45, 107), (47, 151), (60, 168), (61, 208), (62, 188), (256, 228), (257, 268), (258, 248), (261, 288)], 98, 0), (168, .lload 4, 2, 0), (170, .lload_n 2, 1, 0), (171, .ladd, 1, 0), (172, .lstore 6, 2, 0),
  (174, .goto 233, 3, 0), (177, .lload 4, 2, 0), (179, .lload_n 2, 1, 0), (180, .lsub, 1, 0), (181, .lstore 6, 2, 0), (183, .goto 224, 3, 0), (186, .lload 4, 2, 0), (188, .lconst 0, 1, 0),
  (189, .lcmp, 1, 0), (190, .ifCond .eq 22, 3, 0), (193, .lload_n 2, 1, 0), (194, .invokestatic 340, 3, 1219), (197, .ldc2_w 344, 3, 14), (200, .lload 4, 2, 0), (202, .invokestatic 340, 3, 1219), (205, .ldiv, 1, 0),
  (206, .lcmp, 1, 0), (207, .ifCond .le 5, 3, 0), (210, .iconst 0, 1, 0), (211, .ireturn, 1, 0), (212, .lload 4, 2, 0), (214, .lload_n 2, 1, 0), (215, .lmul, 1, 0), (216, .lstore 6, 2, 0),
  (218, .goto 189, 3, 0), (221, .lload_n 2, 1, 0), (222, .lconst 0, 1, 0), (223, .lcmp, 1, 0), (224, .ifCond .ne 5, 3, 0), (227, .iconst 0, 1, 0), (228, .ireturn, 1, 0), (229, .lload 4, 2, 0),
  (231, .lload_n 2, 1, 0), (232, .ldiv, 1, 0), (233, .lstore 6, 2, 0), (235, .goto 172, 3, 0), (238, .lload 4, 2, 0), (240, .lload_n 2, 1, 0), (241, .lcmp, 1, 0), (242, .ifCond .ge 7, 3, 0),
  (245, .iconst 1, 1, 0), (246, .goto 4, 3, 0), (249, .iconst 0, 1, 0), (250, .invokestatic 336, 3, 1218), (253, .lstore 6, 2, 0), (255, .goto 152, 3, 0), (258, .lload 4, 2, 0), (260, .lload_n 2, 1, 0),
  (261, .lcmp, 1, 0), (262, .ifCond .le 7, 3, 0), (265, .iconst 1, 1, 0), (266, .goto 4, 3, 0), (269, .iconst 0, 1, 0), (270, .invokestatic 336, 3, 1218), (273, .lstore 6, 2, 0), (275, .goto 132, 3, 0),
  (278, .lload 4, 2, 0), (280, .lload_n 2, 1, 0), (281, .lcmp, 1, 0), (282, .ifCond .ne 7, 3, 0), (285, .iconst 1, 1, 0), (286, .goto 4, 3, 0), (289, .iconst 0, 1, 0), (290, .invokestatic 336, 3, 1218),
  (293, .lstore 6, 2, 0), (295, .goto 112, 3, 0), (298, .lload 4, 2, 0), (300, .lload_n 2, 1, 0), (301, .lcmp, 1, 0), (302, .ifCond .gt 7, 3, 0), (305, .iconst 1, 1, 0), (306, .goto 4, 3, 0),
  (309, .iconst 0, 1, 0), (310, .invokestatic 336, 3, 1218), (313, .lstore 6, 2, 0), (315, .goto 92, 3, 0), (318, .lload 4, 2, 0), (320, .lload_n 2, 1, 0), (321, .lcmp, 1, 0), (322, .ifCond .lt 7, 3, 0),
  (325, .iconst 1, 1, 0), (326, .goto 4, 3, 0), (329, .iconst 0, 1, 0), (330, .invokestatic 336, 3, 1218), (333, .lstore 6, 2, 0), (335, .goto 72, 3, 0), (338, .lload 4, 2, 0), (340, .lload_n 2, 1, 0),
  (341, .lcmp, 1, 0), (342, .ifCond .eq 7, 3, 0), (345, .iconst 1, 1, 0), (346, .goto 4, 3, 0), (349, .iconst 0, 1, 0), (350, .invokestatic 336, 3, 1218), (353, .lstore 6, 2, 0), (355, .goto 52, 3, 0),
  (358, .lload 4, 2, 0), (360, .lconst 0, 1, 0), (361, .lcmp, 1, 0), (362, .ifCond .eq 13, 3, 0), (365, .lload_n 2, 1, 0), (366, .lconst 0, 1, 0), (367, .lcmp, 1, 0), (368, .ifCond .eq 7, 3, 0),
  (371, .iconst 1, 1, 0), (372, .goto 4, 3, 0), (375, .iconst 0, 1, 0), (376, .invokestatic 336, 3, 1218), (379, .lstore 6, 2, 0), (381, .goto 26, 3, 0), (384, .lload 4, 2, 0), (386, .lconst 0, 1, 0),
  (387, .lcmp, 1, 0), (388, .ifCond .ne 9, 3, 0), (391, .lload_n 2, 1, 0), (392, .lconst 0, 1, 0), (393, .lcmp, 1, 0), (394, .ifCond .eq 7, 3, 0), (397, .iconst 1, 1, 0), (398, .goto 4, 3, 0),
  (401, .iconst 0, 1, 0), (402, .invokestatic 336, 3, 1218), (405, .lstore 6, 2, 0), (407, .aload_n 0, 1, 0), (408, .getfield 105, 3, 1248), (411, .aload_n 0, 1, 0), (412, .getfield 333, 3, 1249), (415, .iconst 1, 1, 0),
  (416, .isub, 1, 0), (417, .lload 6, 2, 0), (419, .lastore, 1, 0), (420, .lload 6, 2, 0), (422, .ldc2_w 344, 3, 14), (425, .lcmp, 1, 0), (426, .ifCond .gt 16, 3, 0), (429, .lload 6, 2, 0),
  (431, .ldc2_w 346, 3, 15), (434, .lcmp, 1, 0), (435, .ifCond .lt 7, 3, 0), (438, .iconst 1, 1, 0), (439, .goto 4, 3, 0), (442, .iconst 0, 1, 0), (443, .ireturn, 1, 0)]
def pT_218 : List pEn := [(0, .iload_n 0, 1, 0), (1, .ifCond .eq 7, 3, 0), (4, .lconst 1, 1, 0), (5, .goto 4, 3, 0), (8, .lconst 0, 1, 0), (9, .lreturn, 1, 0)]
def pT_219 : List pEn := [(0, .lload_n 0, 1, 0), (1, .lconst 0, 1, 0), (2, .lcmp, 1, 0), (3, .ifCond .ge 8, 3, 0), (6, .lload_n 0, 1, 0), (7, .lneg, 1, 0), (8, .goto 4, 3, 0), (11, .lload_n 0, 1, 0),
  (12, .lreturn, 1, 0)]
def pT_220 : List pEn := [(0, .aload_n 0, 1, 0), (1, .iconst 0, 1, 0), (2, .putfield 144, 3, 1200), (5, .aload_n 0, 1, 0), (6, .iload_n 1, 1, 0), (7, .invokevirtual 321, 3, 204), (10, .ifCond .eq 23, 3, 0), (13, .iload_n 1, 1, 0),
  (14, .ifCond .le 19, 3, 0), (17, .iload_n 2, 1, 0), (18, .invokestatic 384, 3, 1211), (21, .ifCond .eq 12, 3, 0), (24, .aload_n 0, 1, 0), (25, .iload_n 1, 1, 0), (26, .iload_n 2, 1, 0), (27, .invokevirtual 381, 3, 221),
  (30, .goto 4, 3, 0), (33, .iconst (-1), 1, 0), (34, .ireturn, 1, 0)]
def pT_221 : List pEn := [(0, .aload_n 0, 1, 0), (1, .aload_n 0, 1, 0), (2, .invokevirtual 375, 3, 222), (5, .iload_n 1, 1, 0), (6, .iload_n 2, 1, 0), (7, .invokevirtual 367, 3, 213), (10, .aload_n 0, 1, 0), (11, .iconst 1, 1, 0),
  (12, .sipush 999, 3, 0), (15, .iconst 0, 1, 0), (16, .aload_n 0, 1, 0), (17, .invokevirtual 375, 3, 222), (20, .aload_n 0, 1, 0), (21, .iload_n 1, 1, 0), (22, .invokevirtual 324, 3, 205), (25, .iconst 2, 1, 0),
  (26, .idiv, 1, 0), (27, .isub, 1, 0), (28, .invokestatic 316, 3, 1083), (31, .invokevirtual 371, 3, 214), (34, .ireturn, 1, 0)]
def pT_222 : List pEn := [(0, .aload_n 0, 1, 0), (1, .getfield 108, 3, 1250), (4, .iconst 5, 1, 0), (5, .if_icmp .ne 14, 3, 0), (8, .iconst 2, 1, 0), (9, .aload_n 0, 1, 0), (10, .getfield 15, 3, 1203), (13, .iconst 3, 1, 0),
  (14, .iaload, 1, 0), (15, .imul, 1, 0), (16, .goto 9, 3, 0), (19, .aload_n 0, 1, 0), (20, .getfield 15, 3, 1203), (23, .iconst 3, 1, 0), (24, .iaload, 1, 0), (25, .ireturn, 1, 0)]
def pT_223 : List pEn := [(0, .aload_n 0, 1, 0), (1, .iconst 0, 1, 0), (2, .putfield 144, 3, 1200), (5, .aload_n 0, 1, 0), (6, .iload_n 1, 1, 0), (7, .invokevirtual 321, 3, 204), (10, .ifCond .eq 10, 3, 0), (13, .iload_n 2, 1, 0),
  (14, .invokestatic 384, 3, 1211), (17, .ifCond .ne 7, 3, 0), (20, .ldc_w 387, 3, 7), (23, .ireturn, 1, 0), (24, .aload_n 0, 1, 0), (25, .invokevirtual 388, 3, 224), (28, .aload_n 0, 1, 0), (29, .aload_n 0, 1, 0),
  (30, .getfield 86, 3, 1240), (33, .iconst 0, 1, 0), (34, .iaload, 1, 0), (35, .aload_n 0, 1, 0), (36, .getfield 89, 3, 1241), (39, .iconst 0, 1, 0), (40, .iaload, 1, 0), (41, .aload_n 0, 1, 0),
  (42, .getfield 92, 3, 1242), (45, .iconst 0, 1, 0), (46, .iaload, 1, 0), (47, .iload_n 1, 1, 0), (48, .iload_n 2, 1, 0), (49, .invokevirtual 391, 3, 225), (52, .ireturn, 1, 0)]
def pT_224 : List pEn := [(0, .iconst 0, 1, 0), (1, .istore_n 1, 1, 0), (2, .iload_n 1, 1, 0), (3, .aload_n 0, 1, 0), (4, .getfield 15, 3, 1203), (7, .iconst 0, 1, 0), (8, .iaload, 1, 0), (9, .if_icmp .ge 80, 3, 0),
  (12, .iconst 0, 1, 0), (13, .istore_n 2, 1, 0), (14, .iload_n 2, 1, 0), (15, .bipush 24, 2, 0), (17, .if_icmp .ge 66, 3, 0), (20, .iconst 0, 1, 0), (21, .istore_n 3, 1, 0), (22, .iload_n 3, 1, 0),
  (23, .aload_n 0, 1, 0), (24, .getfield 15, 3, 1203), (27, .iconst 2, 1, 0), (28, .iaload, 1, 0), (29, .if_icmp .ge 31, 3, 0), (32, .aload_n 0, 1, 0), (33, .getfield 111, 3, 1251), (36, .iconst 3, 1, 0),
  (37, .iload_n 1, 1, 0), (38, .imul, 1, 0), (39, .iload_n 3, 1, 0), (40, .iadd, 1, 0), (41, .bipush 24, 2, 0), (43, .imul, 1, 0), (44, .iload_n 2, 1, 0), (45, .iadd, 1, 0),
  (46, .aload_n 0, 1, 0), (47, .iload_n 3, 1, 0), (48, .iload_n 1, 1, 0), (49, .iload_n 2, 1, 0), (50, .invokevirtual 378, 3, 212), (53, .iastore, 1, 0), (54, .iinc 3 1, 3, 0), (57, .goto (-35), 3, 0),
  (60, .aload_n 0, 1, 0), (61, .getfield 114, 3, 1252), (64, .bipush 24, 2, 0), (66, .iload_n 1, 1, 0), (67, .imul, 1, 0), (68, .iload_n 2, 1, 0), (69, .iadd, 1, 0), (70, .aload_n 0, 1, 0),
  (71, .iload_n 1, 1, 0), (72, .iload_n 2, 1, 0), (73, .invokevirtual 381, 3, 221), (76, .iastore, 1, 0), (77, .iinc 2 1, 3, 0), (80, .goto (-66), 3, 0), (83, .iinc 1 1, 3, 0), (86, .goto (-84), 3, 0),
  (89, .return_, 1, 0)]
def pT_225 : List pEn := [(0, .iload_n 3, 1, 0), (1, .aload_n 0, 1, 0), (2, .getfield 15, 3, 1203), (5, .bipush 6, 2, 0), (7, .iaload, 1, 0), (8, .imul, 1, 0), (9, .istore 6, 2, 0), (11, .iconst 0, 1, 0),
  (12, .istore 7, 2, 0), (14, .iload 7, 2, 0), (16, .aload_n 0, 1, 0), (17, .getfield 15, 3, 1203), (20, .iconst 1, 1, 0), (21, .iaload, 1, 0), (22, .if_icmp .ge 35, 3, 0), (25, .iload 6, 2, 0),
  (27, .iload_n 1, 1, 0), (28, .iload 7, 2, 0), (30, .ishr, 1, 0), (31, .iconst 1, 1, 0), (32, .iand, 1, 0), (33, .iconst 1, 1, 0), (34, .if_icmp .ne 13, 3, 0), (37, .aload_n 0, 1, 0),
  (38, .getfield 40, 3, 1211), (41, .iload 7, 2, 0), (43, .iaload, 1, 0), (44, .goto 4, 3, 0), (47, .iconst 0, 1, 0), (48, .iadd, 1, 0), (49, .istore 6, 2, 0), (51, .iinc 7 1, 3, 0),
  (54, .goto (-40), 3, 0), (57, .iconst 0, 1, 0), (58, .istore 7, 2, 0), (60, .iload 7, 2, 0), (62, .aload_n 0, 1, 0), (63, .getfield 15, 3, 1203), (66, .iconst 2, 1, 0), (67, .iaload, 1, 0),
  (68, .if_icmp .ge 41, 3, 0), (71, .iload 6, 2, 0), (73, .iload_n 2, 1, 0), (74, .iconst 2, 1, 0), (75, .iload 7, 2, 0), (77, .imul, 1, 0), (78, .ishr, 1, 0), (79, .iconst 3, 1, 0),
  (80, .iand, 1, 0), (81, .aload_n 0, 1, 0), (82, .getfield 111, 3, 1251), (85, .iconst 3, 1, 0), (86, .iload 4, 2, 0), (88, .imul, 1, 0), (89, .iload 7, 2, 0), (91, .iadd, 1, 0),
  (92, .bipush 24, 2, 0), (94, .imul, 1, 0), (95, .iload 5, 2, 0), (97, .iadd, 1, 0), (98, .iaload, 1, 0), (99, .imul, 1, 0), (100, .isub, 1, 0), (101, .istore 6, 2, 0),
  (103, .iinc 7 1, 3, 0), (106, .goto (-46), 3, 0), (109, .iload 6, 2, 0), (111, .ireturn, 1, 0)]
def pT_226 : List pEn := [(0, .aload_n 0, 1, 0), (1, .iconst 0, 1, 0), (2, .putfield 144, 3, 1200), (5, .iload_n 1, 1, 0), (6, .ifCond .lt 51, 3, 0), (9, .iload_n 1, 1, 0), (10, .iconst 1, 1, 0), (11, .if_icmp .gt 46, 3, 0),
  (14, .aload_n 0, 1, 0), (15, .iload_n 1, 1, 0), (16, .invokevirtual 351, 3, 215), (19, .ifCond .eq 38, 3, 0), (22, .aload_n 0, 1, 0), (23, .iload_n 3, 1, 0), (24, .invokevirtual 321, 3, 204), (27, .ifCond .eq 30, 3, 0),
  (30, .iload 4, 2, 0), (32, .invokestatic 384, 3, 1211), (35, .ifCond .eq 22, 3, 0), (38, .iload_n 1, 1, 0), (39, .ifCond .ne 14, 3, 0), (42, .aload_n 0, 1, 0), (43, .iload_n 2, 1, 0), (44, .invokevirtual 330, 3, 209),
  (47, .ifCond .ne 14, 3, 0), (50, .goto 7, 3, 0), (53, .iload_n 3, 1, 0), (54, .ifCond .ne 7, 3, 0), (57, .ldc2_w 397, 3, 16), (60, .lreturn, 1, 0), (61, .aload_n 0, 1, 0), (62, .iload_n 1, 1, 0),
  (63, .ifCond .ne 12, 3, 0), (66, .aload_n 0, 1, 0), (67, .getfield 52, 3, 1215), (70, .iload_n 2, 1, 0), (71, .iaload, 1, 0), (72, .goto 7, 3, 0), (75, .aload_n 0, 1, 0), (76, .invokevirtual 375, 3, 222),
  (79, .iload_n 3, 1, 0), (80, .iload 4, 2, 0), (82, .invokevirtual 367, 3, 213), (85, .aload_n 0, 1, 0), (86, .iload_n 1, 1, 0), (87, .invokevirtual 354, 3, 216), (90, .ifCond .eq 12, 3, 0), (93, .aload_n 0, 1, 0),
  (94, .getfield 105, 3, 1248), (97, .iconst 0, 1, 0), (98, .laload, 1, 0), (99, .goto 6, 3, 0), (102, .ldc2_w 397, 3, 16), (105, .lreturn, 1, 0)]
def pT_227 : List pEn := [(0, .aload_n 0, 1, 0), (1, .iconst 0, 1, 0), (2, .putfield 144, 3, 1200), (5, .aload_n 0, 1, 0), (6, .iload_n 1, 1, 0), (7, .invokevirtual 327, 3, 207), (10, .ifCond .eq 33, 3, 0), (13, .aload_n 0, 1, 0),
  (14, .invokevirtual 402, 3, 228), (17, .ifCond .eq 26, 3, 0), (20, .aload_n 0, 1, 0), (21, .getfield 86, 3, 1240), (24, .iconst 0, 1, 0), (25, .iaload, 1, 0), (26, .iload_n 1, 1, 0), (27, .ishr, 1, 0),
  (28, .iconst 1, 1, 0), (29, .iand, 1, 0), (30, .iconst 1, 1, 0), (31, .if_icmp .ne 7, 3, 0), (34, .iconst 1, 1, 0), (35, .goto 4, 3, 0), (38, .iconst 0, 1, 0), (39, .iload_n 2, 1, 0),
  (40, .if_icmp .ne 5, 3, 0), (43, .iconst 0, 1, 0), (44, .ireturn, 1, 0), (45, .aload_n 0, 1, 0), (46, .invokevirtual 406, 3, 229), (49, .aload_n 0, 1, 0), (50, .getfield 86, 3, 1240), (53, .iconst 0, 1, 0),
  (54, .dup2, 1, 0), (55, .iaload, 1, 0), (56, .iconst 1, 1, 0), (57, .iload_n 1, 1, 0), (58, .ishl, 1, 0), (59, .ixor, 1, 0), (60, .iastore, 1, 0), (61, .iconst 1, 1, 0),
  (62, .ireturn, 1, 0)]
def pT_228 : List pEn := [(0, .aload_n 0, 1, 0), (1, .getfield 80, 3, 1238), (4, .iconst 0, 1, 0), (5, .iaload, 1, 0), (6, .ifCond .ne 16, 3, 0), (9, .aload_n 0, 1, 0), (10, .getfield 83, 3, 1239), (13, .iconst 0, 1, 0),
  (14, .iaload, 1, 0), (15, .ifCond .ne 7, 3, 0), (18, .iconst 1, 1, 0), (19, .goto 4, 3, 0), (22, .iconst 0, 1, 0), (23, .ireturn, 1, 0)]
def pT_229 : List pEn := [(0, .aload_n 0, 1, 0), (1, .getfield 313, 3, 1246), (4, .bipush 20, 2, 0), (6, .if_icmp .ne 39, 3, 0), (9, .iconst 1, 1, 0), (10, .istore_n 1, 1, 0), (11, .iload_n 1, 1, 0), (12, .bipush 20, 2, 0),
  (14, .if_icmp .ge 21, 3, 0), (17, .aload_n 0, 1, 0), (18, .iconst 3, 1, 0), (19, .iload_n 1, 1, 0), (20, .iadd, 1, 0), (21, .iconst 1, 1, 0), (22, .isub, 1, 0), (23, .iconst 3, 1, 0),
  (24, .iload_n 1, 1, 0), (25, .iadd, 1, 0), (26, .invokevirtual 399, 3, 230), (29, .iinc 1 1, 3, 0), (32, .goto (-21), 3, 0), (35, .aload_n 0, 1, 0), (36, .dup, 1, 0), (37, .getfield 313, 3, 1246),
  (40, .iconst 1, 1, 0), (41, .isub, 1, 0), (42, .putfield 313, 3, 1246), (45, .aload_n 0, 1, 0), (46, .iconst 3, 1, 0), (47, .aload_n 0, 1, 0), (48, .getfield 313, 3, 1246), (51, .iadd, 1, 0),
  (52, .iconst 0, 1, 0), (53, .invokevirtual 399, 3, 230), (56, .aload_n 0, 1, 0), (57, .dup, 1, 0), (58, .getfield 313, 3, 1246), (61, .iconst 1, 1, 0), (62, .iadd, 1, 0), (63, .putfield 313, 3, 1246),
  (66, .return_, 1, 0)]
def pT_230 : List pEn := [(0, .aload_n 0, 1, 0), (1, .getfield 77, 3, 1237), (4, .iload_n 1, 1, 0), (5, .aload_n 0, 1, 0), (6, .getfield 77, 3, 1237), (9, .iload_n 2, 1, 0), (10, .iaload, 1, 0), (11, .iastore, 1, 0),
  (12, .aload_n 0, 1, 0), (13, .getfield 80, 3, 1238), (16, .iload_n 1, 1, 0), (17, .aload_n 0, 1, 0), (18, .getfield 80, 3, 1238), (21, .iload_n 2, 1, 0), (22, .iaload, 1, 0), (23, .iastore, 1, 0),
  (24, .aload_n 0, 1, 0), (25, .getfield 83, 3, 1239), (28, .iload_n 1, 1, 0), (29, .aload_n 0, 1, 0), (30, .getfield 83, 3, 1239), (33, .iload_n 2, 1, 0), (34, .iaload, 1, 0), (35, .iastore, 1, 0),
  (36, .aload_n 0, 1, 0), (37, .getfield 86, 3, 1240), (40, .iload_n 1, 1, 0), (41, .aload_n 0, 1, 0), (42, .getfield 86, 3, 1240), (45, .iload_n 2, 1, 0), (46, .iaload, 1, 0), (47, .iastore, 1, 0),
  (48, .aload_n 0, 1, 0), (49, .getfield 89, 3, 1241), (52, .iload_n 1, 1, 0), (53, .aload_n 0, 1, 0), (54, .getfield 89, 3, 1241), (57, .iload_n 2, 1, 0), (58, .iaload, 1, 0), (59, .iastore, 1, 0),
  (60, .aload_n 0, 1, 0), (61, .getfield 92, 3, 1242), (64, .iload_n 1, 1, 0), (65, .aload_n 0, 1, 0), (66, .getfield 92, 3, 1242), (69, .iload_n 2, 1, 0), (70, .iaload, 1, 0), (71, .iastore, 1, 0),
  (72, .aload_n 0, 1, 0), (73, .getfield 95, 3, 1243), (76, .iload_n 1, 1, 0), (77, .aload_n 0, 1, 0), (78, .getfield 95, 3, 1243), (81, .iload_n 2, 1, 0), (82, .iaload, 1, 0), (83, .iastore, 1, 0),
  (84, .iconst 0, 1, 0), (85, .istore_n 3, 1, 0), (86, .iload_n 3, 1, 0), (87, .bipush 9, 2, 0), (89, .if_icmp .ge 31, 3, 0), (92, .aload_n 0, 1, 0), (93, .getfield 98, 3, 1244), (96, .bipush 9, 2, 0),
  (98, .iload_n 1, 1, 0), (99, .imul, 1, 0), (100, .iload_n 3, 1, 0), (101, .iadd, 1, 0), (102, .aload_n 0, 1, 0), (103, .getfield 98, 3, 1244), (106, .bipush 9, 2, 0), (108, .iload_n 2, 1, 0),
  (109, .imul, 1, 0), (110, .iload_n 3, 1, 0), (111, .iadd, 1, 0), (112, .iaload, 1, 0), (113, .iastore, 1, 0), (114, .iinc 3 1, 3, 0), (117, .goto (-31), 3, 0), (120, .return_, 1, 0)]
def pT_231 : List pEn := [(0, .aload_n 0, 1, 0), (1, .iconst 0, 1, 0), (2, .putfield 144, 3, 1200), (5, .aload_n 0, 1, 0), (6, .iload_n 1, 1, 0), (7, .invokevirtual 330, 3, 209), (10, .ifCond .eq 40, 3, 0), (13, .aload_n 0, 1, 0),
  (14, .invokevirtual 402, 3, 228), (17, .ifCond .eq 33, 3, 0), (20, .iload_n 2, 1, 0), (21, .ifCond .lt 29, 3, 0), (24, .iload_n 2, 1, 0), (25, .aload_n 0, 1, 0), (26, .getfield 55, 3, 1216), (29, .iload_n 1, 1, 0),
  (30, .iaload, 1, 0), (31, .if_icmp .gt 19, 3, 0), (34, .aload_n 0, 1, 0), (35, .getfield 89, 3, 1241), (38, .iconst 0, 1, 0), (39, .iaload, 1, 0), (40, .iconst 2, 1, 0), (41, .iload_n 1, 1, 0),
  (42, .imul, 1, 0), (43, .ishr, 1, 0), (44, .iconst 3, 1, 0), (45, .iand, 1, 0), (46, .iload_n 2, 1, 0), (47, .if_icmp .ne 5, 3, 0), (50, .iconst 0, 1, 0), (51, .ireturn, 1, 0),
  (52, .aload_n 0, 1, 0), (53, .invokevirtual 406, 3, 229), (56, .aload_n 0, 1, 0), (57, .getfield 89, 3, 1241), (60, .iconst 0, 1, 0), (61, .aload_n 0, 1, 0), (62, .getfield 89, 3, 1241), (65, .iconst 0, 1, 0),
  (66, .iaload, 1, 0), (67, .iconst 3, 1, 0), (68, .iconst 2, 1, 0), (69, .iload_n 1, 1, 0), (70, .imul, 1, 0), (71, .ishl, 1, 0), (72, .iconst (-1), 1, 0), (73, .ixor, 1, 0),
  (74, .iand, 1, 0), (75, .iload_n 2, 1, 0), (76, .iconst 2, 1, 0), (77, .iload_n 1, 1, 0), (78, .imul, 1, 0), (79, .ishl, 1, 0), (80, .ior, 1, 0), (81, .iastore, 1, 0),
  (82, .iconst 1, 1, 0), (83, .ireturn, 1, 0)]
def pT_232 : List pEn := [(0, .aload_n 0, 1, 0), (1, .iconst 0, 1, 0), (2, .putfield 144, 3, 1200), (5, .aload_n 0, 1, 0), (6, .invokevirtual 402, 3, 228), (9, .ifCond .eq 23, 3, 0), (12, .iload_n 1, 1, 0), (13, .ifCond .lt 19, 3, 0),
  (16, .iload_n 1, 1, 0), (17, .bipush 10, 2, 0), (19, .if_icmp .ge 13, 3, 0), (22, .aload_n 0, 1, 0), (23, .getfield 92, 3, 1242), (26, .iconst 0, 1, 0), (27, .iaload, 1, 0), (28, .iload_n 1, 1, 0),
  (29, .if_icmp .ne 5, 3, 0), (32, .iconst 0, 1, 0), (33, .ireturn, 1, 0), (34, .aload_n 0, 1, 0), (35, .invokevirtual 406, 3, 229), (38, .aload_n 0, 1, 0), (39, .getfield 92, 3, 1242), (42, .iconst 0, 1, 0),
  (43, .iload_n 1, 1, 0), (44, .iastore, 1, 0), (45, .iconst 1, 1, 0), (46, .ireturn, 1, 0)]
def pT_233 : List pEn := [(0, .aload_n 0, 1, 0), (1, .iconst 0, 1, 0), (2, .putfield 144, 3, 1200), (5, .aload_n 0, 1, 0), (6, .invokevirtual 402, 3, 228), (9, .ifCond .eq 20, 3, 0), (12, .iload_n 1, 1, 0), (13, .invokestatic 384, 3, 1211),
  (16, .ifCond .eq 13, 3, 0), (19, .aload_n 0, 1, 0), (20, .getfield 77, 3, 1237), (23, .iconst 0, 1, 0), (24, .iaload, 1, 0), (25, .iload_n 1, 1, 0), (26, .if_icmp .ne 5, 3, 0), (29, .iconst 0, 1, 0),
  (30, .ireturn, 1, 0), (31, .aload_n 0, 1, 0), (32, .invokevirtual 406, 3, 229), (35, .aload_n 0, 1, 0), (36, .getfield 77, 3, 1237), (39, .iconst 0, 1, 0), (40, .iload_n 1, 1, 0), (41, .iastore, 1, 0),
  (42, .iconst 1, 1, 0), (43, .ireturn, 1, 0)]
def pT_234 : List pEn := [(0, .aload_n 0, 1, 0), (1, .iconst 0, 1, 0), (2, .putfield 144, 3, 1200), (5, .iload_n 1, 1, 0), (6, .ifCond .lt 19, 3, 0), (9, .iload_n 1, 1, 0), (10, .bipush 50, 2, 0), (12, .if_icmp .gt 13, 3, 0),
  (15, .aload_n 0, 1, 0), (16, .getfield 15, 3, 1203), (19, .iconst 0, 1, 0), (20, .iaload, 1, 0), (21, .iconst 2, 1, 0), (22, .if_icmp .ge 5, 3, 0), (25, .iconst (-1), 1, 0), (26, .ireturn, 1, 0),
  (27, .iload_n 1, 1, 0), (28, .ifCond .le 8, 3, 0), (31, .aload_n 0, 1, 0), (32, .iconst 0, 1, 0), (33, .putfield 313, 3, 1246), (36, .aload_n 0, 1, 0), (37, .invokevirtual 388, 3, 224), (40, .iconst 0, 1, 0),
  (41, .istore_n 2, 1, 0), (42, .iload_n 2, 1, 0), (43, .iload_n 1, 1, 0), (44, .if_icmp .ge 14, 3, 0), (47, .aload_n 0, 1, 0), (48, .iconst 0, 1, 0), (49, .invokevirtual 420, 3, 235), (52, .iinc 2 1, 3, 0),
  (55, .goto (-13), 3, 0), (58, .aload_n 0, 1, 0), (59, .getfield 83, 3, 1239), (62, .iconst 0, 1, 0), (63, .iaload, 1, 0), (64, .iconst 3, 1, 0), (65, .if_icmp .ne 8, 3, 0), (68, .bipush (-2), 2, 0),
  (70, .goto 9, 3, 0), (73, .aload_n 0, 1, 0), (74, .getfield 80, 3, 1238), (77, .iconst 0, 1, 0), (78, .iaload, 1, 0), (79, .ireturn, 1, 0)]
def pT_235 : List pEn := [(0, .aload_n 0, 1, 0), (1, .getfield 83, 3, 1239), (4, .iload_n 1, 1, 0), (5, .iaload, 1, 0), (6, .ifCond .eq 4, 3, 0), (9, .return_, 1, 0), (10, .aload_n 0, 1, 0), (11, .getfield 80, 3, 1238),
  (14, .iload_n 1, 1, 0), (15, .iaload, 1, 0), (16, .istore_n 2, 1, 0), (17, .aload_n 0, 1, 0), (18, .iload_n 1, 1, 0), (19, .iload_n 2, 1, 0), (20, .aload_n 0, 1, 0), (21, .getfield 77, 3, 1237),
  (24, .iload_n 1, 1, 0), (25, .iaload, 1, 0), (26, .invokevirtual 411, 3, 236), (29, .aload_n 0, 1, 0), (30, .getfield 15, 3, 1203), (33, .iconst 4, 1, 0), (34, .iaload, 1, 0), (35, .ineg, 1, 0),
  (36, .if_icmp .ge 11, 3, 0), (39, .aload_n 0, 1, 0), (40, .getfield 83, 3, 1239), (43, .iload_n 1, 1, 0), (44, .iconst 3, 1, 0), (45, .iastore, 1, 0), (46, .return_, 1, 0), (47, .aload_n 0, 1, 0),
  (48, .getfield 77, 3, 1237), (51, .iload_n 1, 1, 0), (52, .aload_n 0, 1, 0), (53, .getfield 77, 3, 1237), (56, .iload_n 1, 1, 0), (57, .iaload, 1, 0), (58, .iconst 1, 1, 0), (59, .iadd, 1, 0),
  (60, .bipush 24, 2, 0), (62, .irem, 1, 0), (63, .iastore, 1, 0), (64, .aload_n 0, 1, 0), (65, .iload_n 1, 1, 0), (66, .iload_n 2, 1, 0), (67, .iconst 1, 1, 0), (68, .iadd, 1, 0),
  (69, .aload_n 0, 1, 0), (70, .getfield 77, 3, 1237), (73, .iload_n 1, 1, 0), (74, .iaload, 1, 0), (75, .invokevirtual 411, 3, 236), (78, .istore_n 3, 1, 0), (79, .iload_n 3, 1, 0), (80, .aload_n 0, 1, 0),
  (81, .getfield 114, 3, 1252), (84, .bipush 24, 2, 0), (86, .iload_n 2, 1, 0), (87, .iconst 1, 1, 0), (88, .iadd, 1, 0), (89, .imul, 1, 0), (90, .aload_n 0, 1, 0), (91, .getfield 77, 3, 1237),
  (94, .iload_n 1, 1, 0), (95, .iaload, 1, 0), (96, .iadd, 1, 0), (97, .iaload, 1, 0), (98, .if_icmp .le 4, 3, 0), (101, .return_, 1, 0), (102, .aload_n 0, 1, 0), (103, .getfield 80, 3, 1238),
  (106, .iload_n 1, 1, 0), (107, .dup2, 1, 0), (108, .iaload, 1, 0), (109, .iconst 1, 1, 0), (110, .iadd, 1, 0), (111, .iastore, 1, 0), (112, .iload_n 3, 1, 0), (113, .aload_n 0, 1, 0),
  (114, .getfield 15, 3, 1203), (117, .iconst 4, 1, 0), (118, .iaload, 1, 0), (119, .ineg, 1, 0), (120, .if_icmp .ge 11, 3, 0), (123, .aload_n 0, 1, 0), (124, .getfield 83, 3, 1239), (127, .iload_n 1, 1, 0),
  (128, .iconst 3, 1, 0), (129, .iastore, 1, 0), (130, .return_, 1, 0), (131, .aload_n 0, 1, 0), (132, .getfield 34, 3, 1209), (135, .iload_n 2, 1, 0), (136, .iconst 1, 1, 0), (137, .iadd, 1, 0),
  (138, .iaload, 1, 0), (139, .ifCond .le 24, 3, 0), (142, .aload_n 0, 1, 0), (143, .iload_n 1, 1, 0), (144, .invokevirtual 414, 3, 237), (147, .aload_n 0, 1, 0), (148, .getfield 34, 3, 1209), (151, .iload_n 2, 1, 0),
  (152, .iconst 1, 1, 0), (153, .iadd, 1, 0), (154, .iaload, 1, 0), (155, .if_icmp .ge 8, 3, 0), (158, .aload_n 0, 1, 0), (159, .iload_n 1, 1, 0), (160, .invokevirtual 417, 3, 238), (163, .iload_n 2, 1, 0),
  (164, .iconst 2, 1, 0), (165, .iadd, 1, 0), (166, .aload_n 0, 1, 0), (167, .getfield 15, 3, 1203), (170, .iconst 0, 1, 0), (171, .iaload, 1, 0), (172, .if_icmp .ne 10, 3, 0), (175, .aload_n 0, 1, 0),
  (176, .getfield 83, 3, 1239), (179, .iload_n 1, 1, 0), (180, .iconst 1, 1, 0), (181, .iastore, 1, 0), (182, .return_, 1, 0)]
def pT_236 : List pEn := [(0, .aload_n 0, 1, 0), (1, .aload_n 0, 1, 0), (2, .getfield 86, 3, 1240), (5, .iload_n 1, 1, 0), (6, .iaload, 1, 0), (7, .aload_n 0, 1, 0), (8, .getfield 89, 3, 1241), (11, .iload_n 1, 1, 0),
  (12, .iaload, 1, 0), (13, .aload_n 0, 1, 0), (14, .getfield 92, 3, 1242), (17, .iload_n 1, 1, 0), (18, .iaload, 1, 0), (19, .iload_n 2, 1, 0), (20, .iload_n 3, 1, 0), (21, .invokevirtual 391, 3, 225),
  (24, .ireturn, 1, 0)]
def pT_237 : List pEn := [(0, .aload_n 0, 1, 0), (1, .getfield 95, 3, 1243), (4, .iload_n 1, 1, 0), (5, .aload_n 0, 1, 0), (6, .getfield 95, 3, 1243), (9, .iload_n 1, 1, 0), (10, .iaload, 1, 0), (11, .ldc_w 409, 3, 8),
  (14, .imul, 1, 0), (15, .sipush 12345, 3, 0), (18, .iadd, 1, 0), (19, .ldc_w 410, 3, 9), (22, .iand, 1, 0), (23, .iastore, 1, 0), (24, .aload_n 0, 1, 0), (25, .getfield 95, 3, 1243),
  (28, .iload_n 1, 1, 0), (29, .iaload, 1, 0), (30, .bipush 16, 2, 0), (32, .ishr, 1, 0), (33, .bipush 100, 2, 0), (35, .irem, 1, 0), (36, .ireturn, 1, 0)]
def pT_238 : List pEn := [(0, .iconst 0, 1, 0), (1, .istore_n 2, 1, 0), (2, .iload_n 2, 1, 0), (3, .aload_n 0, 1, 0), (4, .getfield 15, 3, 1203), (7, .iconst 2, 1, 0), (8, .iaload, 1, 0), (9, .if_icmp .ge 42, 3, 0),
  (12, .aload_n 0, 1, 0), (13, .getfield 89, 3, 1241), (16, .iload_n 1, 1, 0), (17, .iaload, 1, 0), (18, .iconst 2, 1, 0), (19, .iload_n 2, 1, 0), (20, .imul, 1, 0), (21, .ishr, 1, 0),
  (22, .iconst 3, 1, 0), (23, .iand, 1, 0), (24, .ifCond .ne 6, 3, 0), (27, .goto 18, 3, 0), (30, .aload_n 0, 1, 0), (31, .getfield 89, 3, 1241), (34, .iload_n 1, 1, 0), (35, .dup2, 1, 0),
  (36, .iaload, 1, 0), (37, .iconst 1, 1, 0), (38, .iconst 2, 1, 0), (39, .iload_n 2, 1, 0), (40, .imul, 1, 0), (41, .ishl, 1, 0), (42, .isub, 1, 0), (43, .iastore, 1, 0),
  (44, .return_, 1, 0), (45, .iinc 2 1, 3, 0), (48, .goto (-46), 3, 0), (51, .return_, 1, 0)]
def pT_239 : List pEn := [(0, .aload_n 0, 1, 0), (1, .iconst 0, 1, 0), (2, .putfield 144, 3, 1200), (5, .aload_n 0, 1, 0), (6, .getfield 80, 3, 1238), (9, .iconst 0, 1, 0), (10, .iaload, 1, 0), (11, .istore_n 2, 1, 0),
  (12, .aload_n 0, 1, 0), (13, .getfield 15, 3, 1203), (16, .iconst 0, 1, 0), (17, .iaload, 1, 0), (18, .ifCond .eq 32, 3, 0), (21, .iload_n 2, 1, 0), (22, .ifCond .eq 28, 3, 0), (25, .aload_n 0, 1, 0),
  (26, .getfield 83, 3, 1239), (29, .iconst 0, 1, 0), (30, .iaload, 1, 0), (31, .ifCond .ne 19, 3, 0), (34, .iload_n 1, 1, 0), (35, .bipush (-9), 2, 0), (37, .if_icmp .lt 13, 3, 0), (40, .iload_n 1, 1, 0),
  (41, .bipush 9, 2, 0), (43, .if_icmp .gt 7, 3, 0), (46, .iload_n 1, 1, 0), (47, .ifCond .ne 5, 3, 0), (50, .iconst (-1), 1, 0), (51, .ireturn, 1, 0), (52, .iload_n 1, 1, 0), (53, .aload_n 0, 1, 0),
  (54, .getfield 98, 3, 1244), (57, .iload_n 2, 1, 0), (58, .iaload, 1, 0), (59, .if_icmp .gt 40, 3, 0), (62, .aload_n 0, 1, 0), (63, .getfield 98, 3, 1244), (66, .iload_n 2, 1, 0), (67, .iaload, 1, 0),
  (68, .iload_n 1, 1, 0), (69, .isub, 1, 0), (70, .bipush 99, 2, 0), (72, .if_icmp .gt 27, 3, 0), (75, .aload_n 0, 1, 0), (76, .getfield 92, 3, 1242), (79, .iconst 0, 1, 0), (80, .iaload, 1, 0),
  (81, .iload_n 1, 1, 0), (82, .iadd, 1, 0), (83, .bipush 9, 2, 0), (85, .if_icmp .gt 14, 3, 0), (88, .aload_n 0, 1, 0), (89, .getfield 92, 3, 1242), (92, .iconst 0, 1, 0), (93, .iaload, 1, 0),
  (94, .iload_n 1, 1, 0), (95, .iadd, 1, 0), (96, .ifCond .ge 5, 3, 0), (99, .iconst (-1), 1, 0), (100, .ireturn, 1, 0), (101, .aload_n 0, 1, 0), (102, .invokevirtual 406, 3, 229), (105, .aload_n 0, 1, 0),
  (106, .getfield 98, 3, 1244), (109, .iload_n 2, 1, 0), (110, .dup2, 1, 0), (111, .iaload, 1, 0), (112, .iload_n 1, 1, 0), (113, .isub, 1, 0), (114, .iastore, 1, 0), (115, .aload_n 0, 1, 0),
  (116, .getfield 92, 3, 1242), (119, .iconst 0, 1, 0), (120, .dup2, 1, 0), (121, .iaload, 1, 0), (122, .iload_n 1, 1, 0), (123, .iadd, 1, 0), (124, .iastore, 1, 0), (125, .aload_n 0, 1, 0),
  (126, .getfield 92, 3, 1242), (129, .iconst 0, 1, 0), (130, .iaload, 1, 0), (131, .ireturn, 1, 0)]
def pT_240 : List pEn := [(0, .aload_n 0, 1, 0), (1, .iconst 0, 1, 0), (2, .putfield 144, 3, 1200), (5, .aload_n 0, 1, 0), (6, .iload_n 1, 1, 0), (7, .invokevirtual 429, 3, 241), (10, .ifCond .eq 12, 3, 0), (13, .iload_n 2, 1, 0),
  (14, .ifCond .lt 8, 3, 0), (17, .iload_n 2, 1, 0), (18, .iconst 1, 1, 0), (19, .if_icmp .le 5, 3, 0), (22, .iconst (-1), 1, 0), (23, .ireturn, 1, 0), (24, .aload_n 0, 1, 0), (25, .invokevirtual 388, 3, 224),
  (28, .aload_n 0, 1, 0), (29, .iload_n 1, 1, 0), (30, .invokevirtual 432, 3, 242), (33, .istore_n 3, 1, 0), (34, .iload_n 2, 1, 0), (35, .ifCond .ne 10, 3, 0), (38, .aload_n 0, 1, 0), (39, .getfield 423, 3, 1253),
  (42, .goto 4, 3, 0), (45, .iload_n 3, 1, 0), (46, .ireturn, 1, 0)]
def pT_241 : List pEn := [(0, .iload_n 1, 1, 0), (1, .invokestatic 384, 3, 1211), (4, .ifCond .eq 17, 3, 0), (7, .aload_n 0, 1, 0), (8, .getfield 15, 3, 1203), (11, .iconst 0, 1, 0), (12, .iaload, 1, 0), (13, .iconst 1, 1, 0),
  (14, .if_icmp .le 7, 3, 0), (17, .iconst 1, 1, 0), (18, .goto 4, 3, 0), (21, .iconst 0, 1, 0), (22, .ireturn, 1, 0)]
def pT_242 : List pEn := [(0, .aload_n 0, 1, 0), (1, .aload_n 0, 1, 0), (2, .getfield 86, 3, 1240), (5, .iconst 0, 1, 0), (6, .iaload, 1, 0), (7, .aload_n 0, 1, 0), (8, .getfield 89, 3, 1241), (11, .iconst 0, 1, 0),
  (12, .iaload, 1, 0), (13, .aload_n 0, 1, 0), (14, .getfield 92, 3, 1242), (17, .iconst 0, 1, 0), (18, .iaload, 1, 0), (19, .iload_n 1, 1, 0), (20, .iconst 0, 1, 0), (21, .invokevirtual 426, 3, 243),
  (24, .ireturn, 1, 0)]
def pT_243 : List pEn := [(0, .aload_n 0, 1, 0), (1, .iconst 0, 1, 0), (2, .putfield 423, 3, 1253), (5, .aload_n 0, 1, 0), (6, .iload_n 1, 1, 0), (7, .iload_n 2, 1, 0), (8, .iload_n 3, 1, 0), (9, .iconst 0, 1, 0),
  (10, .iload 4, 2, 0), (12, .invokevirtual 391, 3, 225), (15, .aload_n 0, 1, 0), (16, .getfield 15, 3, 1203), (19, .iconst 4, 1, 0), (20, .iaload, 1, 0), (21, .ineg, 1, 0), (22, .iload 5, 2, 0),
  (24, .iconst 1, 1, 0), (25, .iand, 1, 0), (26, .aload_n 0, 1, 0), (27, .getfield 15, 3, 1203), (30, .iconst 5, 1, 0), (31, .iaload, 1, 0), (32, .imul, 1, 0), (33, .isub, 1, 0),
  (34, .if_icmp .ge 5, 3, 0), (37, .iconst 3, 1, 0), (38, .ireturn, 1, 0), (39, .iconst 1, 1, 0), (40, .istore 6, 2, 0), (42, .iload 6, 2, 0), (44, .aload_n 0, 1, 0), (45, .getfield 15, 3, 1203),
  (48, .iconst 0, 1, 0), (49, .iaload, 1, 0), (50, .if_icmp .ge 87, 3, 0), (53, .iload 4, 2, 0), (55, .iload 6, 2, 0), (57, .iadd, 1, 0), (58, .bipush 24, 2, 0), (60, .irem, 1, 0),
  (61, .istore 7, 2, 0), (63, .aload_n 0, 1, 0), (64, .iload_n 1, 1, 0), (65, .iload_n 2, 1, 0), (66, .iload_n 3, 1, 0), (67, .iload 6, 2, 0), (69, .iload 7, 2, 0), (71, .invokevirtual 391, 3, 225),
  (74, .istore 8, 2, 0), (76, .iload 8, 2, 0), (78, .aload_n 0, 1, 0), (79, .getfield 114, 3, 1252), (82, .bipush 24, 2, 0), (84, .iload 6, 2, 0), (86, .imul, 1, 0), (87, .iload 7, 2, 0),
  (89, .iadd, 1, 0), (90, .iaload, 1, 0), (91, .if_icmp .le 5, 3, 0), (94, .iconst 2, 1, 0), (95, .ireturn, 1, 0), (96, .aload_n 0, 1, 0), (97, .iload 6, 2, 0), (99, .putfield 423, 3, 1253),
  (102, .iload 8, 2, 0), (104, .aload_n 0, 1, 0), (105, .getfield 15, 3, 1203), (108, .iconst 4, 1, 0), (109, .iaload, 1, 0), (110, .ineg, 1, 0), (111, .iload 5, 2, 0), (113, .iload 6, 2, 0),
  (115, .ishr, 1, 0), (116, .iconst 1, 1, 0), (117, .iand, 1, 0), (118, .aload_n 0, 1, 0), (119, .getfield 15, 3, 1203), (122, .iconst 5, 1, 0), (123, .iaload, 1, 0), (124, .imul, 1, 0),
  (125, .isub, 1, 0), (126, .if_icmp .ge 5, 3, 0), (129, .iconst 3, 1, 0), (130, .ireturn, 1, 0), (131, .iinc 6 1, 3, 0), (134, .goto (-92), 3, 0), (137, .iconst 1, 1, 0), (138, .ireturn, 1, 0)]
def pT_244 : List pEn := [(0, .aload_n 0, 1, 0), (1, .iconst 0, 1, 0), (2, .putfield 144, 3, 1200), (5, .aload_n 0, 1, 0), (6, .invokevirtual 435, 3, 245), (9, .ireturn, 1, 0)]
def pT_245 : List pEn := [(0, .iconst 0, 1, 0), (1, .istore_n 1, 1, 0), (2, .aload_n 0, 1, 0), (3, .invokevirtual 388, 3, 224), (6, .iconst 0, 1, 0), (7, .istore_n 2, 1, 0), (8, .iload_n 2, 1, 0), (9, .bipush 24, 2, 0),
  (11, .if_icmp .ge 38, 3, 0), (14, .aload_n 0, 1, 0), (15, .getfield 15, 3, 1203), (18, .iconst 0, 1, 0), (19, .iaload, 1, 0), (20, .iconst 1, 1, 0), (21, .if_icmp .le 28, 3, 0), (24, .iload_n 1, 1, 0),
  (25, .aload_n 0, 1, 0), (26, .iload_n 2, 1, 0), (27, .invokevirtual 432, 3, 242), (30, .iconst 1, 1, 0), (31, .if_icmp .ne 9, 3, 0), (34, .iconst 1, 1, 0), (35, .iload_n 2, 1, 0), (36, .ishl, 1, 0),
  (37, .goto 4, 3, 0), (40, .iconst 0, 1, 0), (41, .ior, 1, 0), (42, .istore_n 1, 1, 0), (43, .iinc 2 1, 3, 0), (46, .goto (-38), 3, 0), (49, .iload_n 1, 1, 0), (50, .ireturn, 1, 0)]
def pT_246 : List pEn := [(0, .aload_n 0, 1, 0), (1, .iconst 0, 1, 0), (2, .putfield 144, 3, 1200), (5, .iload_n 1, 1, 0), (6, .ifCond .lt 8, 3, 0), (9, .iload_n 1, 1, 0), (10, .iconst 1, 1, 0), (11, .if_icmp .le 5, 3, 0),
  (14, .iconst (-1), 1, 0), (15, .ireturn, 1, 0), (16, .aload_n 0, 1, 0), (17, .invokevirtual 435, 3, 245), (20, .istore_n 2, 1, 0), (21, .iconst (-1), 1, 0), (22, .istore_n 3, 1, 0), (23, .iconst 0, 1, 0),
  (24, .istore 4, 2, 0), (26, .iconst 0, 1, 0), (27, .istore 5, 2, 0), (29, .iload 5, 2, 0), (31, .bipush 24, 2, 0), (33, .if_icmp .ge 58, 3, 0), (36, .iconst 0, 1, 0), (37, .istore 6, 2, 0),
  (39, .iload 6, 2, 0), (41, .bipush 24, 2, 0), (43, .if_icmp .ge 25, 3, 0), (46, .iload_n 2, 1, 0), (47, .iload 5, 2, 0), (49, .iload 6, 2, 0), (51, .iadd, 1, 0), (52, .bipush 24, 2, 0),
  (54, .irem, 1, 0), (55, .ishr, 1, 0), (56, .iconst 1, 1, 0), (57, .iand, 1, 0), (58, .iconst 1, 1, 0), (59, .if_icmp .ne 9, 3, 0), (62, .iinc 6 1, 3, 0), (65, .goto (-26), 3, 0),
  (68, .iload 6, 2, 0), (70, .iload 4, 2, 0), (72, .if_icmp .gt 6, 3, 0), (75, .goto 10, 3, 0), (78, .iload 6, 2, 0), (80, .istore 4, 2, 0), (82, .iload 5, 2, 0), (84, .istore_n 3, 1, 0),
  (85, .iinc 5 1, 3, 0), (88, .goto (-59), 3, 0), (91, .iload_n 1, 1, 0), (92, .ifCond .ne 7, 3, 0), (95, .iload_n 3, 1, 0), (96, .goto 5, 3, 0), (99, .iload 4, 2, 0), (101, .ireturn, 1, 0)]
def pT_247 : List pEn := [(0, .aload_n 0, 1, 0), (1, .iconst 0, 1, 0), (2, .putfield 144, 3, 1200), (5, .aload_n 0, 1, 0), (6, .iload_n 1, 1, 0), (7, .invokevirtual 429, 3, 241), (10, .ifCond .eq 12, 3, 0), (13, .iload_n 2, 1, 0),
  (14, .ifCond .lt 8, 3, 0), (17, .iload_n 2, 1, 0), (18, .iconst 3, 1, 0), (19, .if_icmp .le 5, 3, 0), (22, .iconst (-1), 1, 0), (23, .ireturn, 1, 0), (24, .aload_n 0, 1, 0), (25, .iload_n 1, 1, 0),
  (26, .invokevirtual 462, 3, 248), (29, .aload_n 0, 1, 0), (30, .getfield 438, 3, 1255), (33, .iconst (-1), 1, 0), (34, .if_icmp .ne 6, 3, 0), (37, .bipush (-2), 2, 0), (39, .ireturn, 1, 0), (40, .iload_n 2, 1, 0),
  (41, .ifCond .ne 10, 3, 0), (44, .aload_n 0, 1, 0), (45, .getfield 450, 3, 1254), (48, .goto 31, 3, 0), (51, .iload_n 2, 1, 0), (52, .iconst 1, 1, 0), (53, .if_icmp .ne 10, 3, 0), (56, .aload_n 0, 1, 0),
  (57, .getfield 438, 3, 1255), (60, .goto 19, 3, 0), (63, .iload_n 2, 1, 0), (64, .iconst 2, 1, 0), (65, .if_icmp .ne 10, 3, 0), (68, .aload_n 0, 1, 0), (69, .getfield 456, 3, 1256), (72, .goto 7, 3, 0),
  (75, .aload_n 0, 1, 0), (76, .getfield 459, 3, 1257), (79, .ireturn, 1, 0)]
def pT_248 : List pEn := [(0, .aload_n 0, 1, 0), (1, .invokevirtual 388, 3, 224), (4, .aload_n 0, 1, 0), (5, .iconst (-1), 1, 0), (6, .putfield 438, 3, 1255), (9, .aload_n 0, 1, 0), (10, .iconst 0, 1, 0), (11, .putfield 441, 3, 1258),
  (14, .iconst 0, 1, 0), (15, .istore_n 2, 1, 0), (16, .iload_n 2, 1, 0), (17, .bipush 10, 2, 0), (19, .if_icmp .ge 185, 3, 0), (22, .iconst 0, 1, 0), (23, .istore_n 3, 1, 0), (24, .iload_n 3, 1, 0),
  (25, .iconst 1, 1, 0), (26, .aload_n 0, 1, 0), (27, .getfield 15, 3, 1203), (30, .iconst 1, 1, 0), (31, .iaload, 1, 0), (32, .ishl, 1, 0), (33, .if_icmp .ge 165, 3, 0), (36, .aload_n 0, 1, 0),
  (37, .iload_n 3, 1, 0), (38, .invokevirtual 444, 3, 249), (41, .istore 4, 2, 0), (43, .aload_n 0, 1, 0), (44, .iload_n 3, 1, 0), (45, .invokevirtual 447, 3, 250), (48, .istore 5, 2, 0), (50, .aload_n 0, 1, 0),
  (51, .getfield 438, 3, 1255), (54, .iconst (-1), 1, 0), (55, .if_icmp .eq 27, 3, 0), (58, .iload 4, 2, 0), (60, .aload_n 0, 1, 0), (61, .getfield 450, 3, 1254), (64, .if_icmp .gt 18, 3, 0), (67, .iload 4, 2, 0),
  (69, .aload_n 0, 1, 0), (70, .getfield 441, 3, 1258), (73, .iload 5, 2, 0), (75, .imul, 1, 0), (76, .if_icmp .gt 6, 3, 0), (79, .goto 113, 3, 0), (82, .iconst 0, 1, 0), (83, .istore 6, 2, 0),
  (85, .iload 6, 2, 0), (87, .bipush 64, 2, 0), (89, .if_icmp .ge 103, 3, 0), (92, .aload_n 0, 1, 0), (93, .iload 6, 2, 0), (95, .invokevirtual 453, 3, 251), (98, .ifCond .eq 88, 3, 0), (101, .aload_n 0, 1, 0),
  (102, .iload_n 3, 1, 0), (103, .iload 6, 2, 0), (105, .iload_n 2, 1, 0), (106, .iload_n 1, 1, 0), (107, .iconst 0, 1, 0), (108, .invokevirtual 426, 3, 243), (111, .iconst 1, 1, 0), (112, .if_icmp .eq 6, 3, 0),
  (115, .goto 71, 3, 0), (118, .iload 4, 2, 0), (120, .ifCond .le 24, 3, 0), (123, .aload_n 0, 1, 0), (124, .aload_n 0, 1, 0), (125, .getfield 441, 3, 1258), (128, .iload 4, 2, 0), (130, .iload 5, 2, 0),
  (132, .iadd, 1, 0), (133, .iconst 1, 1, 0), (134, .isub, 1, 0), (135, .iload 5, 2, 0), (137, .idiv, 1, 0), (138, .invokestatic 316, 3, 1083), (141, .putfield 441, 3, 1258), (144, .aload_n 0, 1, 0),
  (145, .getfield 438, 3, 1255), (148, .iconst (-1), 1, 0), (149, .if_icmp .eq 12, 3, 0), (152, .iload 4, 2, 0), (154, .aload_n 0, 1, 0), (155, .getfield 450, 3, 1254), (158, .if_icmp .le 34, 3, 0), (161, .aload_n 0, 1, 0),
  (162, .iload 4, 2, 0), (164, .putfield 450, 3, 1254), (167, .aload_n 0, 1, 0), (168, .iload_n 3, 1, 0), (169, .putfield 438, 3, 1255), (172, .aload_n 0, 1, 0), (173, .iload 6, 2, 0), (175, .putfield 456, 3, 1256),
  (178, .aload_n 0, 1, 0), (179, .iload_n 2, 1, 0), (180, .putfield 459, 3, 1257), (183, .goto 9, 3, 0), (186, .iinc 6 1, 3, 0), (189, .goto (-104), 3, 0), (192, .iinc 3 1, 3, 0), (195, .goto (-171), 3, 0),
  (198, .iinc 2 1, 3, 0), (201, .goto (-185), 3, 0), (204, .return_, 1, 0)]
def pT_249 : List pEn := [(0, .iconst 0, 1, 0), (1, .istore_n 2, 1, 0), (2, .iconst 0, 1, 0), (3, .istore_n 3, 1, 0), (4, .iload_n 3, 1, 0), (5, .aload_n 0, 1, 0), (6, .getfield 15, 3, 1203), (9, .iconst 1, 1, 0),
  (10, .iaload, 1, 0), (11, .if_icmp .ge 38, 3, 0), (14, .iload_n 2, 1, 0), (15, .iload_n 1, 1, 0), (16, .iload_n 3, 1, 0), (17, .ishr, 1, 0), (18, .iconst 1, 1, 0), (19, .iand, 1, 0),
  (20, .iconst 1, 1, 0), (21, .if_icmp .ne 19, 3, 0), (24, .aload_n 0, 1, 0), (25, .getfield 46, 3, 1213), (28, .iload_n 3, 1, 0), (29, .iaload, 1, 0), (30, .aload_n 0, 1, 0), (31, .getfield 43, 3, 1212),
  (34, .iload_n 3, 1, 0), (35, .iaload, 1, 0), (36, .isub, 1, 0), (37, .goto 4, 3, 0), (40, .iconst 0, 1, 0), (41, .iadd, 1, 0), (42, .istore_n 2, 1, 0), (43, .iinc 3 1, 3, 0),
  (46, .goto (-42), 3, 0), (49, .iload_n 2, 1, 0), (50, .ireturn, 1, 0)]
def pT_250 : List pEn := [(0, .iconst 0, 1, 0), (1, .istore_n 2, 1, 0), (2, .iconst 0, 1, 0), (3, .istore_n 3, 1, 0), (4, .iload_n 3, 1, 0), (5, .aload_n 0, 1, 0), (6, .getfield 15, 3, 1203), (9, .iconst 1, 1, 0),
  (10, .iaload, 1, 0), (11, .if_icmp .ge 31, 3, 0), (14, .iload_n 2, 1, 0), (15, .iload_n 1, 1, 0), (16, .iload_n 3, 1, 0), (17, .ishr, 1, 0), (18, .iconst 1, 1, 0), (19, .iand, 1, 0),
  (20, .iconst 1, 1, 0), (21, .if_icmp .ne 12, 3, 0), (24, .aload_n 0, 1, 0), (25, .getfield 40, 3, 1211), (28, .iload_n 3, 1, 0), (29, .iaload, 1, 0), (30, .goto 4, 3, 0), (33, .iconst 0, 1, 0),
  (34, .iadd, 1, 0), (35, .istore_n 2, 1, 0), (36, .iinc 3 1, 3, 0), (39, .goto (-35), 3, 0), (42, .iload_n 2, 1, 0), (43, .ireturn, 1, 0)]
def pT_251 : List pEn := [(0, .iconst 0, 1, 0), (1, .istore_n 2, 1, 0), (2, .iload_n 2, 1, 0), (3, .iconst 3, 1, 0), (4, .if_icmp .ge 41, 3, 0), (7, .iload_n 1, 1, 0), (8, .iconst 2, 1, 0), (9, .iload_n 2, 1, 0),
  (10, .imul, 1, 0), (11, .ishr, 1, 0), (12, .iconst 3, 1, 0), (13, .iand, 1, 0), (14, .iload_n 2, 1, 0), (15, .aload_n 0, 1, 0), (16, .getfield 15, 3, 1203), (19, .iconst 2, 1, 0),
  (20, .iaload, 1, 0), (21, .if_icmp .ge 12, 3, 0), (24, .aload_n 0, 1, 0), (25, .getfield 55, 3, 1216), (28, .iload_n 2, 1, 0), (29, .iaload, 1, 0), (30, .goto 4, 3, 0), (33, .iconst 0, 1, 0),
  (34, .if_icmp .le 5, 3, 0), (37, .iconst 0, 1, 0), (38, .ireturn, 1, 0), (39, .iinc 2 1, 3, 0), (42, .goto (-40), 3, 0), (45, .iconst 1, 1, 0), (46, .ireturn, 1, 0)]
def pT_252 : List pEn := [(0, .aload_n 0, 1, 0), (1, .iconst 0, 1, 0), (2, .putfield 144, 3, 1200), (5, .aload_n 0, 1, 0), (6, .iload_n 1, 1, 0), (7, .invokevirtual 429, 3, 241), (10, .ifCond .ne 5, 3, 0), (13, .iconst (-1), 1, 0),
  (14, .ireturn, 1, 0), (15, .aload_n 0, 1, 0), (16, .iload_n 1, 1, 0), (17, .invokevirtual 462, 3, 248), (20, .aload_n 0, 1, 0), (21, .getfield 441, 3, 1258), (24, .sipush 200, 3, 0), (27, .if_icmp .le 8, 3, 0),
  (30, .bipush (-2), 2, 0), (32, .goto 7, 3, 0), (35, .aload_n 0, 1, 0), (36, .getfield 441, 3, 1258), (39, .ireturn, 1, 0)]
def pT_253 : List pEn := [(0, .aload_n 0, 1, 0), (1, .iconst 0, 1, 0), (2, .putfield 144, 3, 1200), (5, .aload_n 0, 1, 0), (6, .iload_n 1, 1, 0), (7, .invokevirtual 429, 3, 241), (10, .ifCond .ne 5, 3, 0), (13, .iconst (-1), 1, 0),
  (14, .ireturn, 1, 0), (15, .aload_n 0, 1, 0), (16, .iload_n 1, 1, 0), (17, .invokevirtual 478, 3, 254), (20, .aload_n 0, 1, 0), (21, .getfield 117, 3, 1259), (24, .aload_n 0, 1, 0), (25, .getfield 92, 3, 1242),
  (28, .iconst 0, 1, 0), (29, .iaload, 1, 0), (30, .iaload, 1, 0), (31, .sipush 1000, 3, 0), (34, .if_icmp .lt 8, 3, 0), (37, .bipush (-2), 2, 0), (39, .goto 14, 3, 0), (42, .aload_n 0, 1, 0),
  (43, .getfield 117, 3, 1259), (46, .aload_n 0, 1, 0), (47, .getfield 92, 3, 1242), (50, .iconst 0, 1, 0), (51, .iaload, 1, 0), (52, .iaload, 1, 0), (53, .ireturn, 1, 0)]
def pT_254 : List pEn := [(0, .aload_n 0, 1, 0), (1, .invokevirtual 388, 3, 224), (4, .aload_n 0, 1, 0), (5, .getfield 15, 3, 1203), (8, .iconst 0, 1, 0), (9, .iaload, 1, 0), (10, .iconst 2, 1, 0), (11, .isub, 1, 0),
  (12, .istore_n 2, 1, 0), (13, .iload_n 2, 1, 0), (14, .ifCond .lt 73, 3, 0), (17, .iconst 0, 1, 0), (18, .istore_n 3, 1, 0), (19, .iload_n 3, 1, 0), (20, .bipush 10, 2, 0), (22, .if_icmp .ge 59, 3, 0),
  (25, .sipush 1000, 3, 0), (28, .istore 4, 2, 0), (30, .iconst 0, 1, 0), (31, .istore 5, 2, 0), (33, .iload 5, 2, 0), (35, .bipush 10, 2, 0), (37, .if_icmp .ge 25, 3, 0), (40, .iload 4, 2, 0),
  (42, .aload_n 0, 1, 0), (43, .iload_n 2, 1, 0), (44, .iload_n 3, 1, 0), (45, .iload 5, 2, 0), (47, .iload_n 1, 1, 0), (48, .invokevirtual 472, 3, 255), (51, .invokestatic 476, 3, 1030), (54, .istore 4, 2, 0),
  (56, .iinc 5 1, 3, 0), (59, .goto (-26), 3, 0), (62, .aload_n 0, 1, 0), (63, .getfield 117, 3, 1259), (66, .bipush 10, 2, 0), (68, .iload_n 2, 1, 0), (69, .imul, 1, 0), (70, .iload_n 3, 1, 0),
  (71, .iadd, 1, 0), (72, .iload 4, 2, 0), (74, .iastore, 1, 0), (75, .iinc 3 1, 3, 0), (78, .goto (-59), 3, 0), (81, .iinc 2 (-1), 3, 0), (84, .goto (-71), 3, 0), (87, .return_, 1, 0)]
def pT_255 : List pEn := [(0, .iload_n 1, 1, 0), (1, .ifCond .le 19, 3, 0), (4, .iload_n 3, 1, 0), (5, .iload_n 2, 1, 0), (6, .isub, 1, 0), (7, .aload_n 0, 1, 0), (8, .getfield 98, 3, 1244), (11, .iload_n 1, 1, 0),
  (12, .iaload, 1, 0), (13, .if_icmp .le 7, 3, 0), (16, .sipush 1000, 3, 0), (19, .ireturn, 1, 0), (20, .aload_n 0, 1, 0), (21, .iload_n 3, 1, 0), (22, .iload_n 1, 1, 0), (23, .iload 4, 2, 0),
  (25, .invokevirtual 469, 3, 256), (28, .ifCond .ne 7, 3, 0), (31, .sipush 1000, 3, 0), (34, .ireturn, 1, 0), (35, .iload_n 2, 1, 0), (36, .iload_n 3, 1, 0), (37, .if_icmp .ne 7, 3, 0), (40, .iconst 0, 1, 0),
  (41, .goto 4, 3, 0), (44, .iconst 1, 1, 0), (45, .iload_n 1, 1, 0), (46, .iconst 2, 1, 0), (47, .iadd, 1, 0), (48, .aload_n 0, 1, 0), (49, .getfield 15, 3, 1203), (52, .iconst 0, 1, 0),
  (53, .iaload, 1, 0), (54, .if_icmp .ne 7, 3, 0), (57, .iconst 0, 1, 0), (58, .goto 16, 3, 0), (61, .aload_n 0, 1, 0), (62, .getfield 117, 3, 1259), (65, .bipush 10, 2, 0), (67, .iload_n 1, 1, 0),
  (68, .iconst 1, 1, 0), (69, .iadd, 1, 0), (70, .imul, 1, 0), (71, .iload_n 3, 1, 0), (72, .iadd, 1, 0), (73, .iaload, 1, 0), (74, .iadd, 1, 0), (75, .ireturn, 1, 0)]
def pT_256 : List pEn := [(0, .iload_n 3, 1, 0), (1, .iload_n 2, 1, 0), (2, .iadd, 1, 0), (3, .iconst 1, 1, 0), (4, .iadd, 1, 0), (5, .bipush 24, 2, 0), (7, .irem, 1, 0), (8, .istore 4, 2, 0),
  (10, .aload_n 0, 1, 0), (11, .iload_n 1, 1, 0), (12, .iload_n 2, 1, 0), (13, .iload_n 3, 1, 0), (14, .invokevirtual 465, 3, 257), (17, .ifCond .eq 58, 3, 0), (20, .aload_n 0, 1, 0), (21, .iload_n 1, 1, 0),
  (22, .iload_n 2, 1, 0), (23, .iconst 1, 1, 0), (24, .iadd, 1, 0), (25, .iload_n 3, 1, 0), (26, .invokevirtual 465, 3, 257), (29, .ifCond .eq 46, 3, 0), (32, .aload_n 0, 1, 0), (33, .aload_n 0, 1, 0),
  (34, .getfield 86, 3, 1240), (37, .iconst 0, 1, 0), (38, .iaload, 1, 0), (39, .aload_n 0, 1, 0), (40, .getfield 89, 3, 1241), (43, .iconst 0, 1, 0), (44, .iaload, 1, 0), (45, .iload_n 1, 1, 0),
  (46, .iload_n 2, 1, 0), (47, .iconst 1, 1, 0), (48, .iadd, 1, 0), (49, .iload 4, 2, 0), (51, .invokevirtual 391, 3, 225), (54, .aload_n 0, 1, 0), (55, .getfield 114, 3, 1252), (58, .bipush 24, 2, 0),
  (60, .iload_n 2, 1, 0), (61, .iconst 1, 1, 0), (62, .iadd, 1, 0), (63, .imul, 1, 0), (64, .iload 4, 2, 0), (66, .iadd, 1, 0), (67, .iaload, 1, 0), (68, .if_icmp .gt 7, 3, 0),
  (71, .iconst 1, 1, 0), (72, .goto 4, 3, 0), (75, .iconst 0, 1, 0), (76, .ireturn, 1, 0)]
def pT_257 : List pEn := [(0, .aload_n 0, 1, 0), (1, .aload_n 0, 1, 0), (2, .getfield 86, 3, 1240), (5, .iconst 0, 1, 0), (6, .iaload, 1, 0), (7, .aload_n 0, 1, 0), (8, .getfield 89, 3, 1241), (11, .iconst 0, 1, 0),
  (12, .iaload, 1, 0), (13, .iload_n 1, 1, 0), (14, .iload_n 2, 1, 0), (15, .iload_n 3, 1, 0), (16, .iload_n 2, 1, 0), (17, .iadd, 1, 0), (18, .bipush 24, 2, 0), (20, .irem, 1, 0),
  (21, .invokevirtual 391, 3, 225), (24, .aload_n 0, 1, 0), (25, .getfield 15, 3, 1203), (28, .iconst 4, 1, 0), (29, .iaload, 1, 0), (30, .ineg, 1, 0), (31, .if_icmp .lt 7, 3, 0), (34, .iconst 1, 1, 0),
  (35, .goto 4, 3, 0), (38, .iconst 0, 1, 0), (39, .ireturn, 1, 0)]
def pT_258 : List pEn := [(0, .aload_n 0, 1, 0), (1, .iconst 0, 1, 0), (2, .putfield 144, 3, 1200), (5, .aload_n 0, 1, 0), (6, .iload_n 1, 1, 0), (7, .invokevirtual 429, 3, 241), (10, .ifCond .eq 11, 3, 0), (13, .aload_n 0, 1, 0),
  (14, .iload_n 2, 1, 0), (15, .invokevirtual 321, 3, 204), (18, .ifCond .ne 5, 3, 0), (21, .iconst (-1), 1, 0), (22, .ireturn, 1, 0), (23, .aload_n 0, 1, 0), (24, .iload_n 1, 1, 0), (25, .invokevirtual 478, 3, 254),
  (28, .aload_n 0, 1, 0), (29, .getfield 92, 3, 1242), (32, .iconst 0, 1, 0), (33, .iaload, 1, 0), (34, .istore_n 3, 1, 0), (35, .aload_n 0, 1, 0), (36, .getfield 117, 3, 1259), (39, .iload_n 3, 1, 0),
  (40, .iaload, 1, 0), (41, .sipush 1000, 3, 0), (44, .if_icmp .lt 6, 3, 0), (47, .bipush (-2), 2, 0), (49, .ireturn, 1, 0), (50, .iconst 0, 1, 0), (51, .istore 4, 2, 0), (53, .iload 4, 2, 0),
  (55, .iload_n 2, 1, 0), (56, .if_icmp .gt 59, 3, 0), (59, .iload 4, 2, 0), (61, .iconst 1, 1, 0), (62, .iadd, 1, 0), (63, .aload_n 0, 1, 0), (64, .getfield 15, 3, 1203), (67, .iconst 0, 1, 0),
  (68, .iaload, 1, 0), (69, .if_icmp .ge 46, 3, 0), (72, .iconst 0, 1, 0), (73, .istore 5, 2, 0), (75, .aload_n 0, 1, 0), (76, .iload 4, 2, 0), (78, .iload_n 3, 1, 0), (79, .iload 5, 2, 0),
  (81, .iload_n 1, 1, 0), (82, .invokevirtual 472, 3, 255), (85, .aload_n 0, 1, 0), (86, .getfield 117, 3, 1259), (89, .bipush 10, 2, 0), (91, .iload 4, 2, 0), (93, .imul, 1, 0), (94, .iload_n 3, 1, 0),
  (95, .iadd, 1, 0), (96, .iaload, 1, 0), (97, .if_icmp .eq 9, 3, 0), (100, .iinc 5 1, 3, 0), (103, .goto (-28), 3, 0), (106, .iload 5, 2, 0), (108, .istore_n 3, 1, 0), (109, .iinc 4 1, 3, 0),
  (112, .goto (-59), 3, 0), (115, .iload_n 3, 1, 0), (116, .ireturn, 1, 0)]
def pT_259 : List pEn := [(0, .aload_n 0, 1, 0), (1, .iconst 0, 1, 0), (2, .putfield 144, 3, 1200), (5, .aload_n 0, 1, 0), (6, .iload_n 1, 1, 0), (7, .invokevirtual 429, 3, 241), (10, .ifCond .ne 5, 3, 0), (13, .iconst (-1), 1, 0),
  (14, .ireturn, 1, 0), (15, .aload_n 0, 1, 0), (16, .invokevirtual 388, 3, 224), (19, .aload_n 0, 1, 0), (20, .aload_n 0, 1, 0), (21, .getfield 86, 3, 1240), (24, .iconst 0, 1, 0), (25, .iaload, 1, 0),
  (26, .aload_n 0, 1, 0), (27, .getfield 89, 3, 1241), (30, .iconst 0, 1, 0), (31, .iaload, 1, 0), (32, .aload_n 0, 1, 0), (33, .getfield 92, 3, 1242), (36, .iconst 0, 1, 0), (37, .iaload, 1, 0),
  (38, .iload_n 1, 1, 0), (39, .sipush 511, 3, 0), (42, .invokevirtual 426, 3, 243), (45, .iconst 1, 1, 0), (46, .if_icmp .eq 6, 3, 0), (49, .bipush (-2), 2, 0), (51, .ireturn, 1, 0), (52, .iconst 0, 1, 0),
  (53, .istore_n 2, 1, 0), (54, .iconst 0, 1, 0), (55, .istore_n 3, 1, 0), (56, .iload_n 3, 1, 0), (57, .aload_n 0, 1, 0), (58, .getfield 15, 3, 1203), (61, .iconst 0, 1, 0), (62, .iaload, 1, 0),
  (63, .if_icmp .ge 34, 3, 0), (66, .iload_n 2, 1, 0), (67, .aload_n 0, 1, 0), (68, .aload_n 0, 1, 0), (69, .getfield 92, 3, 1242), (72, .iconst 0, 1, 0), (73, .iaload, 1, 0), (74, .iload_n 3, 1, 0),
  (75, .iload_n 1, 1, 0), (76, .invokevirtual 465, 3, 257), (79, .ifCond .eq 7, 3, 0), (82, .iconst 0, 1, 0), (83, .goto 6, 3, 0), (86, .iconst 1, 1, 0), (87, .iload_n 3, 1, 0), (88, .ishl, 1, 0),
  (89, .ior, 1, 0), (90, .istore_n 2, 1, 0), (91, .iinc 3 1, 3, 0), (94, .goto (-38), 3, 0), (97, .iload_n 2, 1, 0), (98, .ireturn, 1, 0)]
def pT_260 : List pEn := [(0, .aload_n 0, 1, 0), (1, .iconst 0, 1, 0), (2, .putfield 144, 3, 1200), (5, .aload_n 0, 1, 0), (6, .iload_n 1, 1, 0), (7, .iload_n 2, 1, 0), (8, .invokevirtual 484, 3, 261), (11, .ifCond .eq 12, 3, 0),
  (14, .iload_n 3, 1, 0), (15, .ifCond .lt 8, 3, 0), (18, .iload_n 3, 1, 0), (19, .iconst 1, 1, 0), (20, .if_icmp .le 5, 3, 0), (23, .iconst (-1), 1, 0), (24, .ireturn, 1, 0), (25, .aload_n 0, 1, 0),
  (26, .iload_n 1, 1, 0), (27, .iload_n 2, 1, 0), (28, .invokevirtual 488, 3, 262), (31, .istore 4, 2, 0), (33, .iload_n 3, 1, 0), (34, .ifCond .ne 8, 3, 0), (37, .iload 4, 2, 0), (39, .goto 7, 3, 0),
  (42, .aload_n 0, 1, 0), (43, .getfield 481, 3, 1260), (46, .ireturn, 1, 0)]
def pT_261 : List pEn := [(0, .iload_n 1, 1, 0), (1, .invokestatic 384, 3, 1211), (4, .ifCond .eq 24, 3, 0), (7, .iload_n 2, 1, 0), (8, .invokestatic 384, 3, 1211), (11, .ifCond .eq 17, 3, 0), (14, .aload_n 0, 1, 0), (15, .getfield 15, 3, 1203),
  (18, .iconst 0, 1, 0), (19, .iaload, 1, 0), (20, .iconst 1, 1, 0), (21, .if_icmp .le 7, 3, 0), (24, .iconst 1, 1, 0), (25, .goto 4, 3, 0), (28, .iconst 0, 1, 0), (29, .ireturn, 1, 0)]
def pT_262 : List pEn := [(0, .aload_n 0, 1, 0), (1, .getfield 15, 3, 1203), (4, .iconst 0, 1, 0), (5, .iaload, 1, 0), (6, .istore_n 3, 1, 0), (7, .iconst 0, 1, 0), (8, .istore 4, 2, 0), (10, .iload 4, 2, 0),
  (12, .iload_n 3, 1, 0), (13, .if_icmp .ge 67, 3, 0), (16, .iload_n 1, 1, 0), (17, .iload 4, 2, 0), (19, .iadd, 1, 0), (20, .istore 5, 2, 0), (22, .iload_n 3, 1, 0), (23, .iconst 1, 1, 0),
  (24, .isub, 1, 0), (25, .iload 5, 2, 0), (27, .iload_n 2, 1, 0), (28, .isub, 1, 0), (29, .isub, 1, 0), (30, .istore 6, 2, 0), (32, .aload_n 0, 1, 0), (33, .iload 5, 2, 0),
  (35, .putfield 481, 3, 1260), (38, .iload 5, 2, 0), (40, .iload_n 2, 1, 0), (41, .if_icmp .lt 33, 3, 0), (44, .iload 6, 2, 0), (46, .ifCond .ge 6, 3, 0), (49, .goto 25, 3, 0), (52, .iload 6, 2, 0),
  (54, .iload 4, 2, 0), (56, .if_icmp .ne 6, 3, 0), (59, .iload 4, 2, 0), (61, .ireturn, 1, 0), (62, .iload 6, 2, 0), (64, .iload 4, 2, 0), (66, .iconst 1, 1, 0), (67, .iadd, 1, 0),
  (68, .if_icmp .ne 6, 3, 0), (71, .bipush (-2), 2, 0), (73, .ireturn, 1, 0), (74, .iinc 4 1, 3, 0), (77, .goto (-67), 3, 0), (80, .aload_n 0, 1, 0), (81, .bipush (-3), 2, 0), (83, .putfield 481, 3, 1260),
  (86, .bipush (-3), 2, 0), (88, .ireturn, 1, 0)]
def pT_263 : List pEn := [(0, .aload_n 0, 1, 0), (1, .iconst 0, 1, 0), (2, .putfield 144, 3, 1200), (5, .aload_n 0, 1, 0), (6, .iload_n 1, 1, 0), (7, .iload_n 2, 1, 0), (8, .invokevirtual 484, 3, 261), (11, .ifCond .ne 5, 3, 0),
  (14, .iconst (-1), 1, 0), (15, .ireturn, 1, 0), (16, .iconst 0, 1, 0), (17, .istore_n 3, 1, 0), (18, .iload_n 3, 1, 0), (19, .bipush 24, 2, 0), (21, .if_icmp .ge 43, 3, 0), (24, .aload_n 0, 1, 0),
  (25, .iload_n 1, 1, 0), (26, .iload_n 2, 1, 0), (27, .iload_n 3, 1, 0), (28, .iadd, 1, 0), (29, .invokevirtual 488, 3, 262), (32, .istore 4, 2, 0), (34, .iload 4, 2, 0), (36, .bipush (-3), 2, 0),
  (38, .if_icmp .eq 18, 3, 0), (41, .iload 4, 2, 0), (43, .ifCond .lt 15, 3, 0), (46, .aload_n 0, 1, 0), (47, .getfield 24, 3, 1206), (50, .iload 4, 2, 0), (52, .baload, 1, 0), (53, .ifCond .eq 5, 3, 0),
  (56, .iload_n 3, 1, 0), (57, .ireturn, 1, 0), (58, .iinc 3 1, 3, 0), (61, .goto (-43), 3, 0), (64, .bipush (-2), 2, 0), (66, .ireturn, 1, 0)]
def pT_264 : List pEn := [(0, .aload_n 0, 1, 0), (1, .iconst 0, 1, 0), (2, .putfield 144, 3, 1200), (5, .aload_n 0, 1, 0), (6, .iload_n 1, 1, 0), (7, .invokevirtual 327, 3, 207), (10, .ifCond .eq 11, 3, 0), (13, .aload_n 0, 1, 0),
  (14, .iload_n 2, 1, 0), (15, .invokevirtual 321, 3, 204), (18, .ifCond .ne 5, 3, 0), (21, .iconst (-1), 1, 0), (22, .ireturn, 1, 0), (23, .aload_n 0, 1, 0), (24, .getfield 21, 3, 1205), (27, .aload_n 0, 1, 0),
  (28, .getfield 15, 3, 1203), (31, .iconst 0, 1, 0), (32, .iaload, 1, 0), (33, .iconst 1, 1, 0), (34, .isub, 1, 0), (35, .iaload, 1, 0), (36, .aload_n 0, 1, 0), (37, .getfield 21, 3, 1205),
  (40, .iconst 0, 1, 0), (41, .iaload, 1, 0), (42, .isub, 1, 0), (43, .istore_n 3, 1, 0), (44, .iload_n 3, 1, 0), (45, .ifCond .ne 12, 3, 0), (48, .aload_n 0, 1, 0), (49, .getfield 43, 3, 1212),
  (52, .iload_n 1, 1, 0), (53, .iaload, 1, 0), (54, .goto 39, 3, 0), (57, .aload_n 0, 1, 0), (58, .getfield 43, 3, 1212), (61, .iload_n 1, 1, 0), (62, .iaload, 1, 0), (63, .aload_n 0, 1, 0),
  (64, .getfield 46, 3, 1213), (67, .iload_n 1, 1, 0), (68, .iaload, 1, 0), (69, .aload_n 0, 1, 0), (70, .getfield 43, 3, 1212), (73, .iload_n 1, 1, 0), (74, .iaload, 1, 0), (75, .isub, 1, 0),
  (76, .aload_n 0, 1, 0), (77, .getfield 21, 3, 1205), (80, .iload_n 2, 1, 0), (81, .iaload, 1, 0), (82, .aload_n 0, 1, 0), (83, .getfield 21, 3, 1205), (86, .iconst 0, 1, 0), (87, .iaload, 1, 0),
  (88, .isub, 1, 0), (89, .imul, 1, 0), (90, .iload_n 3, 1, 0), (91, .idiv, 1, 0), (92, .iadd, 1, 0), (93, .ireturn, 1, 0)]
def pT_265 : List pEn := [(0, .aload_n 0, 1, 0), (1, .iconst 0, 1, 0), (2, .putfield 144, 3, 1200), (5, .aload_n 0, 1, 0), (6, .iload_n 1, 1, 0), (7, .invokevirtual 321, 3, 204), (10, .ifCond .ne 7, 3, 0), (13, .ldc_w 387, 3, 7),
  (16, .ireturn, 1, 0), (17, .bipush 10, 2, 0), (19, .iload_n 1, 1, 0), (20, .imul, 1, 0), (21, .istore_n 2, 1, 0), (22, .aload_n 0, 1, 0), (23, .getfield 21, 3, 1205), (26, .iload_n 1, 1, 0),
  (27, .iaload, 1, 0), (28, .istore_n 3, 1, 0), (29, .iload_n 3, 1, 0), (30, .ifCond .le 90, 3, 0), (33, .iinc 3 (-7), 3, 0), (36, .iconst (-1), 1, 0), (37, .istore 4, 2, 0), (39, .iconst 0, 1, 0),
  (40, .istore 5, 2, 0), (42, .iload 5, 2, 0), (44, .aload_n 0, 1, 0), (45, .getfield 15, 3, 1203), (48, .iconst 0, 1, 0), (49, .iaload, 1, 0), (50, .if_icmp .ge 47, 3, 0), (53, .aload_n 0, 1, 0),
  (54, .getfield 21, 3, 1205), (57, .iload 5, 2, 0), (59, .iaload, 1, 0), (60, .iload_n 3, 1, 0), (61, .if_icmp .gt 30, 3, 0), (64, .iload 4, 2, 0), (66, .iconst (-1), 1, 0), (67, .if_icmp .eq 20, 3, 0),
  (70, .aload_n 0, 1, 0), (71, .getfield 21, 3, 1205), (74, .iload 5, 2, 0), (76, .iaload, 1, 0), (77, .aload_n 0, 1, 0), (78, .getfield 21, 3, 1205), (81, .iload 4, 2, 0), (83, .iaload, 1, 0),
  (84, .if_icmp .le 7, 3, 0), (87, .iload 5, 2, 0), (89, .istore 4, 2, 0), (91, .iinc 5 1, 3, 0), (94, .goto (-52), 3, 0), (97, .iload_n 2, 1, 0), (98, .iload 4, 2, 0), (100, .iconst (-1), 1, 0),
  (101, .if_icmp .ne 7, 3, 0), (104, .iconst 0, 1, 0), (105, .goto 10, 3, 0), (108, .aload_n 0, 1, 0), (109, .getfield 28, 3, 1207), (112, .iload 4, 2, 0), (114, .iaload, 1, 0), (115, .iadd, 1, 0),
  (116, .istore_n 2, 1, 0), (117, .goto (-88), 3, 0), (120, .iload_n 2, 1, 0), (121, .ireturn, 1, 0)]
def pT_266 : List pEn := [(0, .aload_n 0, 1, 0), (1, .iconst 0, 1, 0), (2, .putfield 144, 3, 1200), (5, .aload_n 0, 1, 0), (6, .iload_n 1, 1, 0), (7, .invokevirtual 321, 3, 204), (10, .ifCond .eq 40, 3, 0), (13, .iload_n 2, 1, 0),
  (14, .invokestatic 384, 3, 1211), (17, .ifCond .eq 33, 3, 0), (20, .iload_n 3, 1, 0), (21, .sipush (-9999), 3, 0), (24, .if_icmp .lt 26, 3, 0), (27, .iload 4, 2, 0), (29, .sipush 9999, 3, 0), (32, .if_icmp .gt 18, 3, 0),
  (35, .iload 4, 2, 0), (37, .iload_n 3, 1, 0), (38, .if_icmp .lt 12, 3, 0), (41, .aload_n 0, 1, 0), (42, .getfield 306, 3, 1261), (45, .bipush 24, 2, 0), (47, .if_icmp .ne 5, 3, 0), (50, .iconst (-1), 1, 0),
  (51, .ireturn, 1, 0), (52, .aload_n 0, 1, 0), (53, .getfield 123, 3, 1263), (56, .aload_n 0, 1, 0), (57, .getfield 306, 3, 1261), (60, .iload_n 1, 1, 0), (61, .iastore, 1, 0), (62, .aload_n 0, 1, 0),
  (63, .getfield 126, 3, 1264), (66, .aload_n 0, 1, 0), (67, .getfield 306, 3, 1261), (70, .iload_n 2, 1, 0), (71, .iastore, 1, 0), (72, .aload_n 0, 1, 0), (73, .getfield 129, 3, 1265), (76, .aload_n 0, 1, 0),
  (77, .getfield 306, 3, 1261), (80, .iload_n 3, 1, 0), (81, .iastore, 1, 0), (82, .aload_n 0, 1, 0), (83, .getfield 132, 3, 1266), (86, .aload_n 0, 1, 0), (87, .getfield 306, 3, 1261), (90, .iload 4, 2, 0),
  (92, .iastore, 1, 0), (93, .aload_n 0, 1, 0), (94, .getfield 135, 3, 1267), (97, .aload_n 0, 1, 0), (98, .getfield 306, 3, 1261), (101, .iconst (-1), 1, 0), (102, .iastore, 1, 0), (103, .aload_n 0, 1, 0),
  (104, .dup, 1, 0), (105, .getfield 306, 3, 1261), (108, .iconst 1, 1, 0), (109, .iadd, 1, 0), (110, .putfield 306, 3, 1261), (113, .aload_n 0, 1, 0), (114, .getfield 306, 3, 1261), (117, .iconst 1, 1, 0),
  (118, .isub, 1, 0), (119, .ireturn, 1, 0)]
def pT_267 : List pEn := [(0, .aload_n 0, 1, 0), (1, .iconst 0, 1, 0), (2, .putfield 144, 3, 1200), (5, .iload_n 1, 1, 0), (6, .ifCond .lt 20, 3, 0), (9, .iload_n 1, 1, 0), (10, .aload_n 0, 1, 0), (11, .getfield 306, 3, 1261),
  (14, .if_icmp .ge 12, 3, 0), (17, .aload_n 0, 1, 0), (18, .getfield 306, 3, 1261), (21, .bipush 24, 2, 0), (23, .if_icmp .ne 5, 3, 0), (26, .iconst (-1), 1, 0), (27, .ireturn, 1, 0), (28, .aload_n 0, 1, 0),
  (29, .getfield 135, 3, 1267), (32, .aload_n 0, 1, 0), (33, .getfield 306, 3, 1261), (36, .iload_n 1, 1, 0), (37, .iastore, 1, 0), (38, .aload_n 0, 1, 0), (39, .dup, 1, 0), (40, .getfield 306, 3, 1261),
  (43, .iconst 1, 1, 0), (44, .iadd, 1, 0), (45, .putfield 306, 3, 1261), (48, .aload_n 0, 1, 0), (49, .getfield 306, 3, 1261), (52, .iconst 1, 1, 0), (53, .isub, 1, 0), (54, .ireturn, 1, 0)]
def pT_268 : List pEn := [(0, .aload_n 0, 1, 0), (1, .iconst 0, 1, 0), (2, .putfield 144, 3, 1200), (5, .iload_n 1, 1, 0), (6, .iconst (-1), 1, 0), (7, .if_icmp .lt 11, 3, 0), (10, .iload_n 1, 1, 0), (11, .aload_n 0, 1, 0),
  (12, .getfield 306, 3, 1261), (15, .if_icmp .le 5, 3, 0), (18, .iconst 0, 1, 0), (19, .ireturn, 1, 0), (20, .aload_n 0, 1, 0), (21, .iload_n 1, 1, 0), (22, .putfield 120, 3, 1262), (25, .iconst 1, 1, 0),
  (26, .ireturn, 1, 0)]
def pT_269 : List pEn := [(0, .aload_n 0, 1, 0), (1, .iconst 0, 1, 0), (2, .putfield 144, 3, 1200), (5, .aload_n 0, 1, 0), (6, .iconst (-1), 1, 0), (7, .invokevirtual 521, 3, 270), (10, .aload_n 0, 1, 0), (11, .getfield 494, 3, 1269),
  (14, .ireturn, 1, 0)]
def pT_270 : List pEn := [(0, .iconst 0, 1, 0), (1, .istore_n 2, 1, 0), (2, .iload_n 2, 1, 0), (3, .aload_n 0, 1, 0), (4, .invokevirtual 491, 3, 271), (7, .if_icmp .ge 16, 3, 0), (10, .aload_n 0, 1, 0), (11, .getfield 138, 3, 1268),
  (14, .iload_n 2, 1, 0), (15, .iconst 0, 1, 0), (16, .bastore, 1, 0), (17, .iinc 2 1, 3, 0), (20, .goto (-18), 3, 0), (23, .aload_n 0, 1, 0), (24, .invokevirtual 491, 3, 271), (27, .iconst 1, 1, 0),
  (28, .isub, 1, 0), (29, .istore_n 2, 1, 0), (30, .iload_n 2, 1, 0), (31, .ifCond .lt 40, 3, 0), (34, .aload_n 0, 1, 0), (35, .getfield 138, 3, 1268), (38, .iload_n 2, 1, 0), (39, .baload, 1, 0),
  (40, .ifCond .ne 25, 3, 0), (43, .aload_n 0, 1, 0), (44, .getfield 135, 3, 1267), (47, .iload_n 2, 1, 0), (48, .iaload, 1, 0), (49, .iconst (-1), 1, 0), (50, .if_icmp .eq 15, 3, 0), (53, .aload_n 0, 1, 0),
  (54, .getfield 138, 3, 1268), (57, .aload_n 0, 1, 0), (58, .getfield 135, 3, 1267), (61, .iload_n 2, 1, 0), (62, .iaload, 1, 0), (63, .iconst 1, 1, 0), (64, .bastore, 1, 0), (65, .iinc 2 (-1), 3, 0),
  (68, .goto (-38), 3, 0), (71, .aload_n 0, 1, 0), (72, .invokevirtual 388, 3, 224), (75, .aload_n 0, 1, 0), (76, .iconst 0, 1, 0), (77, .putfield 494, 3, 1269), (80, .aload_n 0, 1, 0), (81, .iload_n 1, 1, 0),
  (82, .putfield 497, 3, 1270), (85, .aload_n 0, 1, 0), (86, .iconst (-1), 1, 0), (87, .putfield 500, 3, 1274), (90, .aload_n 0, 1, 0), (91, .iconst 0, 1, 0), (92, .putfield 503, 3, 1275), (95, .iconst 0, 1, 0),
  (96, .istore_n 2, 1, 0), (97, .iload_n 2, 1, 0), (98, .iconst 1, 1, 0), (99, .aload_n 0, 1, 0), (100, .getfield 15, 3, 1203), (103, .iconst 1, 1, 0), (104, .iaload, 1, 0), (105, .ishl, 1, 0),
  (106, .if_icmp .ge 66, 3, 0), (109, .iconst 0, 1, 0), (110, .istore_n 3, 1, 0), (111, .iload_n 3, 1, 0), (112, .bipush 64, 2, 0), (114, .if_icmp .ge 52, 3, 0), (117, .iconst 0, 1, 0), (118, .istore 4, 2, 0),
  (120, .iload 4, 2, 0), (122, .bipush 10, 2, 0), (124, .if_icmp .ge 36, 3, 0), (127, .aload_n 0, 1, 0), (128, .iload_n 3, 1, 0), (129, .invokevirtual 453, 3, 251), (132, .ifCond .eq 28, 3, 0), (135, .aload_n 0, 1, 0),
  (136, .iload_n 2, 1, 0), (137, .iload_n 3, 1, 0), (138, .iload 4, 2, 0), (140, .invokevirtual 506, 3, 272), (143, .ifCond .eq 11, 3, 0), (146, .aload_n 0, 1, 0), (147, .iload_n 2, 1, 0), (148, .iload_n 3, 1, 0),
  (149, .iload 4, 2, 0), (151, .invokevirtual 509, 3, 273), (154, .iinc 4 1, 3, 0), (157, .goto (-37), 3, 0), (160, .iinc 3 1, 3, 0), (163, .goto (-52), 3, 0), (166, .iinc 2 1, 3, 0), (169, .goto (-72), 3, 0),
  (172, .return_, 1, 0)]
def pT_271 : List pEn := [(0, .aload_n 0, 1, 0), (1, .getfield 120, 3, 1262), (4, .iconst (-1), 1, 0), (5, .if_icmp .ne 10, 3, 0), (8, .aload_n 0, 1, 0), (9, .getfield 306, 3, 1261), (12, .goto 7, 3, 0), (15, .aload_n 0, 1, 0),
  (16, .getfield 120, 3, 1262), (19, .ireturn, 1, 0)]
def pT_272 : List pEn := [(0, .iconst 0, 1, 0), (1, .istore 4, 2, 0), (3, .iload 4, 2, 0), (5, .aload_n 0, 1, 0), (6, .invokevirtual 491, 3, 271), (9, .if_icmp .ge 82, 3, 0), (12, .aload_n 0, 1, 0), (13, .getfield 138, 3, 1268),
  (16, .iload 4, 2, 0), (18, .baload, 1, 0), (19, .ifCond .ne 66, 3, 0), (22, .aload_n 0, 1, 0), (23, .getfield 135, 3, 1267), (26, .iload 4, 2, 0), (28, .iaload, 1, 0), (29, .iconst (-1), 1, 0),
  (30, .if_icmp .eq 6, 3, 0), (33, .goto 52, 3, 0), (36, .aload_n 0, 1, 0), (37, .iload_n 1, 1, 0), (38, .iload_n 2, 1, 0), (39, .iload_n 3, 1, 0), (40, .aload_n 0, 1, 0), (41, .getfield 123, 3, 1263),
  (44, .iload 4, 2, 0), (46, .iaload, 1, 0), (47, .aload_n 0, 1, 0), (48, .getfield 126, 3, 1264), (51, .iload 4, 2, 0), (53, .iaload, 1, 0), (54, .invokevirtual 391, 3, 225), (57, .istore 5, 2, 0),
  (59, .iload 5, 2, 0), (61, .aload_n 0, 1, 0), (62, .getfield 129, 3, 1265), (65, .iload 4, 2, 0), (67, .iaload, 1, 0), (68, .if_icmp .lt 15, 3, 0), (71, .iload 5, 2, 0), (73, .aload_n 0, 1, 0),
  (74, .getfield 132, 3, 1266), (77, .iload 4, 2, 0), (79, .iaload, 1, 0), (80, .if_icmp .le 5, 3, 0), (83, .iconst 0, 1, 0), (84, .ireturn, 1, 0), (85, .iinc 4 1, 3, 0), (88, .goto (-85), 3, 0),
  (91, .iconst 1, 1, 0), (92, .ireturn, 1, 0)]
def pT_273 : List pEn := [(0, .aload_n 0, 1, 0), (1, .getfield 494, 3, 1269), (4, .aload_n 0, 1, 0), (5, .getfield 497, 3, 1270), (8, .if_icmp .ne 18, 3, 0), (11, .aload_n 0, 1, 0), (12, .iload_n 1, 1, 0), (13, .putfield 512, 3, 1271),
  (16, .aload_n 0, 1, 0), (17, .iload_n 2, 1, 0), (18, .putfield 515, 3, 1272), (21, .aload_n 0, 1, 0), (22, .iload_n 3, 1, 0), (23, .putfield 518, 3, 1273), (26, .aload_n 0, 1, 0), (27, .dup, 1, 0),
  (28, .getfield 494, 3, 1269), (31, .iconst 1, 1, 0), (32, .iadd, 1, 0), (33, .putfield 494, 3, 1269), (36, .aload_n 0, 1, 0), (37, .dup, 1, 0), (38, .getfield 500, 3, 1274), (41, .iload_n 1, 1, 0),
  (42, .iand, 1, 0), (43, .putfield 500, 3, 1274), (46, .aload_n 0, 1, 0), (47, .dup, 1, 0), (48, .getfield 503, 3, 1275), (51, .iload_n 1, 1, 0), (52, .ior, 1, 0), (53, .putfield 503, 3, 1275),
  (56, .return_, 1, 0)]
def pT_274 : List pEn := [(0, .aload_n 0, 1, 0), (1, .iconst 0, 1, 0), (2, .putfield 144, 3, 1200), (5, .iload_n 1, 1, 0), (6, .ifCond .lt 12, 3, 0), (9, .iload_n 2, 1, 0), (10, .ifCond .lt 8, 3, 0), (13, .iload_n 2, 1, 0),
  (14, .iconst 2, 1, 0), (15, .if_icmp .le 5, 3, 0), (18, .iconst (-1), 1, 0), (19, .ireturn, 1, 0), (20, .aload_n 0, 1, 0), (21, .iload_n 1, 1, 0), (22, .invokevirtual 521, 3, 270), (25, .iload_n 1, 1, 0),
  (26, .aload_n 0, 1, 0), (27, .getfield 494, 3, 1269), (30, .if_icmp .lt 6, 3, 0), (33, .bipush (-2), 2, 0), (35, .ireturn, 1, 0), (36, .iload_n 2, 1, 0), (37, .ifCond .ne 10, 3, 0), (40, .aload_n 0, 1, 0),
  (41, .getfield 512, 3, 1271), (44, .goto 19, 3, 0), (47, .iload_n 2, 1, 0), (48, .iconst 1, 1, 0), (49, .if_icmp .ne 10, 3, 0), (52, .aload_n 0, 1, 0), (53, .getfield 515, 3, 1272), (56, .goto 7, 3, 0),
  (59, .aload_n 0, 1, 0), (60, .getfield 518, 3, 1273), (63, .ireturn, 1, 0)]
def pT_275 : List pEn := [(0, .aload_n 0, 1, 0), (1, .iconst 0, 1, 0), (2, .putfield 144, 3, 1200), (5, .aload_n 0, 1, 0), (6, .iload_n 1, 1, 0), (7, .invokevirtual 327, 3, 207), (10, .ifCond .ne 5, 3, 0), (13, .iconst (-1), 1, 0),
  (14, .ireturn, 1, 0), (15, .aload_n 0, 1, 0), (16, .iconst (-1), 1, 0), (17, .invokevirtual 521, 3, 270), (20, .aload_n 0, 1, 0), (21, .getfield 494, 3, 1269), (24, .ifCond .ne 6, 3, 0), (27, .bipush (-2), 2, 0),
  (29, .ireturn, 1, 0), (30, .aload_n 0, 1, 0), (31, .getfield 500, 3, 1274), (34, .iload_n 1, 1, 0), (35, .ishr, 1, 0), (36, .iconst 1, 1, 0), (37, .iand, 1, 0), (38, .iconst 1, 1, 0),
  (39, .if_icmp .ne 7, 3, 0), (42, .iconst 1, 1, 0), (43, .goto 19, 3, 0), (46, .aload_n 0, 1, 0), (47, .getfield 503, 3, 1275), (50, .iload_n 1, 1, 0), (51, .ishr, 1, 0), (52, .iconst 1, 1, 0),
  (53, .iand, 1, 0), (54, .ifCond .ne 7, 3, 0), (57, .iconst 0, 1, 0), (58, .goto 4, 3, 0), (61, .iconst 2, 1, 0), (62, .ireturn, 1, 0)]
def pT_276 : List pEn := [(0, .aload_n 0, 1, 0), (1, .iconst 0, 1, 0), (2, .putfield 144, 3, 1200), (5, .iload_n 1, 1, 0), (6, .ifCond .lt 13, 3, 0), (9, .aload_n 0, 1, 0), (10, .getfield 15, 3, 1203), (13, .iconst 0, 1, 0),
  (14, .iaload, 1, 0), (15, .iconst 2, 1, 0), (16, .if_icmp .ge 5, 3, 0), (19, .iconst (-1), 1, 0), (20, .ireturn, 1, 0), (21, .aload_n 0, 1, 0), (22, .invokevirtual 388, 3, 224), (25, .iload_n 1, 1, 0),
  (26, .istore_n 2, 1, 0), (27, .iconst 0, 1, 0), (28, .istore_n 3, 1, 0), (29, .iconst 0, 1, 0), (30, .istore 4, 2, 0), (32, .iload 4, 2, 0), (34, .bipush 10, 2, 0), (36, .if_icmp .ge 68, 3, 0),
  (39, .aload_n 0, 1, 0), (40, .iconst 1, 1, 0), (41, .iconst 0, 1, 0), (42, .invokevirtual 399, 3, 230), (45, .aload_n 0, 1, 0), (46, .getfield 95, 3, 1243), (49, .iconst 1, 1, 0), (50, .iload_n 2, 1, 0),
  (51, .iastore, 1, 0), (52, .iconst 0, 1, 0), (53, .istore 5, 2, 0), (55, .iload 5, 2, 0), (57, .bipush 30, 2, 0), (59, .if_icmp .ge 14, 3, 0), (62, .aload_n 0, 1, 0), (63, .iconst 1, 1, 0),
  (64, .invokevirtual 420, 3, 235), (67, .iinc 5 1, 3, 0), (70, .goto (-15), 3, 0), (73, .aload_n 0, 1, 0), (74, .getfield 95, 3, 1243), (77, .iconst 1, 1, 0), (78, .iaload, 1, 0), (79, .istore_n 2, 1, 0),
  (80, .iload_n 3, 1, 0), (81, .aload_n 0, 1, 0), (82, .getfield 83, 3, 1239), (85, .iconst 1, 1, 0), (86, .iaload, 1, 0), (87, .iconst 1, 1, 0), (88, .if_icmp .ne 7, 3, 0), (91, .iconst 1, 1, 0),
  (92, .goto 4, 3, 0), (95, .iconst 0, 1, 0), (96, .iadd, 1, 0), (97, .istore_n 3, 1, 0), (98, .iinc 4 1, 3, 0), (101, .goto (-69), 3, 0), (104, .iload_n 3, 1, 0), (105, .ireturn, 1, 0)]
def pT_277 : List pEn := [(0, .aload_n 0, 1, 0), (1, .iconst 0, 1, 0), (2, .putfield 144, 3, 1200), (5, .iload_n 1, 1, 0), (6, .iconst 2, 1, 0), (7, .if_icmp .ne 11, 3, 0), (10, .aload_n 0, 1, 0), (11, .iload_n 2, 1, 0),
  (12, .invokevirtual 327, 3, 207), (15, .goto 34, 3, 0), (18, .iload_n 1, 1, 0), (19, .iconst 3, 1, 0), (20, .if_icmp .ne 11, 3, 0), (23, .aload_n 0, 1, 0), (24, .iload_n 2, 1, 0), (25, .invokevirtual 330, 3, 209),
  (28, .goto 21, 3, 0), (31, .iload_n 1, 1, 0), (32, .ifCond .lt 16, 3, 0), (35, .iload_n 1, 1, 0), (36, .iconst 5, 1, 0), (37, .if_icmp .gt 11, 3, 0), (40, .iload_n 2, 1, 0), (41, .ifCond .ne 7, 3, 0),
  (44, .iconst 1, 1, 0), (45, .goto 4, 3, 0), (48, .iconst 0, 1, 0), (49, .istore 4, 2, 0), (51, .iload 4, 2, 0), (53, .ifCond .eq 11, 3, 0), (56, .aload_n 0, 1, 0), (57, .iload_n 3, 1, 0),
  (58, .invokevirtual 429, 3, 241), (61, .ifCond .ne 5, 3, 0), (64, .iconst (-1), 1, 0), (65, .ireturn, 1, 0), (66, .aload_n 0, 1, 0), (67, .iload_n 1, 1, 0), (68, .putfield 108, 3, 1250), (71, .aload_n 0, 1, 0),
  (72, .invokevirtual 388, 3, 224), (75, .aload_n 0, 1, 0), (76, .iconst (-1), 1, 0), (77, .putfield 108, 3, 1250), (80, .iload_n 1, 1, 0), (81, .iconst 2, 1, 0), (82, .if_icmp .ne 18, 3, 0), (85, .aload_n 0, 1, 0),
  (86, .getfield 86, 3, 1240), (89, .iconst 0, 1, 0), (90, .iaload, 1, 0), (91, .iconst 1, 1, 0), (92, .iload_n 2, 1, 0), (93, .ishl, 1, 0), (94, .iconst (-1), 1, 0), (95, .ixor, 1, 0),
  (96, .iand, 1, 0), (97, .goto 9, 3, 0), (100, .aload_n 0, 1, 0), (101, .getfield 86, 3, 1240), (104, .iconst 0, 1, 0), (105, .iaload, 1, 0), (106, .istore 5, 2, 0), (108, .iload_n 1, 1, 0),
  (109, .iconst 3, 1, 0), (110, .if_icmp .ne 20, 3, 0), (113, .aload_n 0, 1, 0), (114, .getfield 89, 3, 1241), (117, .iconst 0, 1, 0), (118, .iaload, 1, 0), (119, .iconst 3, 1, 0), (120, .iconst 2, 1, 0),
  (121, .iload_n 2, 1, 0), (122, .imul, 1, 0), (123, .ishl, 1, 0), (124, .iconst (-1), 1, 0), (125, .ixor, 1, 0), (126, .iand, 1, 0), (127, .goto 9, 3, 0), (130, .aload_n 0, 1, 0),
  (131, .getfield 89, 3, 1241), (134, .iconst 0, 1, 0), (135, .iaload, 1, 0), (136, .istore 6, 2, 0), (138, .aload_n 0, 1, 0), (139, .iload 5, 2, 0), (141, .iload 6, 2, 0), (143, .iload_n 1, 1, 0),
  (144, .iconst 4, 1, 0), (145, .if_icmp .ne 7, 3, 0), (148, .iconst 0, 1, 0), (149, .goto 9, 3, 0), (152, .aload_n 0, 1, 0), (153, .getfield 92, 3, 1242), (156, .iconst 0, 1, 0), (157, .iaload, 1, 0),
  (158, .iload_n 3, 1, 0), (159, .iconst 0, 1, 0), (160, .invokevirtual 426, 3, 243), (163, .pop, 1, 0), (164, .aload_n 0, 1, 0), (165, .getfield 423, 3, 1253), (168, .ireturn, 1, 0)]
def pT_278 : List pEn := [(0, .aload_n 0, 1, 0), (1, .iconst 0, 1, 0), (2, .putfield 144, 3, 1200), (5, .aload_n 0, 1, 0), (6, .getfield 313, 3, 1246), (9, .ifCond .ne 5, 3, 0), (12, .iconst (-1), 1, 0), (13, .ireturn, 1, 0),
  (14, .aload_n 0, 1, 0), (15, .dup, 1, 0), (16, .getfield 313, 3, 1246), (19, .iconst 1, 1, 0), (20, .isub, 1, 0), (21, .putfield 313, 3, 1246), (24, .aload_n 0, 1, 0), (25, .iconst 0, 1, 0),
  (26, .iconst 3, 1, 0), (27, .aload_n 0, 1, 0), (28, .getfield 313, 3, 1246), (31, .iadd, 1, 0), (32, .invokevirtual 399, 3, 230), (35, .aload_n 0, 1, 0), (36, .getfield 313, 3, 1246), (39, .ireturn, 1, 0)]
def pT_279 : List pEn := [(0, .aload_n 0, 1, 0), (1, .iconst 0, 1, 0), (2, .putfield 144, 3, 1200), (5, .aload_n 0, 1, 0), (6, .iconst 2, 1, 0), (7, .iconst 0, 1, 0), (8, .invokevirtual 399, 3, 230), (11, .aload_n 0, 1, 0),
  (12, .iconst 1, 1, 0), (13, .putfield 309, 3, 1245), (16, .aload_n 0, 1, 0), (17, .getfield 77, 3, 1237), (20, .iconst 0, 1, 0), (21, .iaload, 1, 0), (22, .ireturn, 1, 0)]
def pT_280 : List pEn := [(0, .aload_n 0, 1, 0), (1, .iconst 0, 1, 0), (2, .putfield 144, 3, 1200), (5, .aload_n 0, 1, 0), (6, .getfield 309, 3, 1245), (9, .ifCond .ne 5, 3, 0), (12, .iconst (-1), 1, 0), (13, .ireturn, 1, 0),
  (14, .aload_n 0, 1, 0), (15, .iconst 0, 1, 0), (16, .iconst 2, 1, 0), (17, .invokevirtual 399, 3, 230), (20, .aload_n 0, 1, 0), (21, .iconst 0, 1, 0), (22, .putfield 313, 3, 1246), (25, .aload_n 0, 1, 0),
  (26, .getfield 77, 3, 1237), (29, .iconst 0, 1, 0), (30, .iaload, 1, 0), (31, .ireturn, 1, 0)]
def pT_281 : List pEn := [(0, .aload_n 0, 1, 0), (1, .iconst 0, 1, 0), (2, .putfield 144, 3, 1200), (5, .iconst 0, 1, 0), (6, .istore_n 2, 1, 0), (7, .iload_n 1, 1, 0), (8, .tableswitch 183 0 13 #[72, 79, 86, 93, 101, 108, 115, 122, 127, 132, 137, 144, 151, 158], 72, 0), (80, .aload_n 0, 1, 0),
  (81, .getfield 15, 3, 1203), (84, .iconst 0, 1, 0), (85, .iaload, 1, 0), (86, .ireturn, 1, 0), (87, .aload_n 0, 1, 0), (88, .getfield 15, 3, 1203), (91, .iconst 1, 1, 0), (92, .iaload, 1, 0),
  (93, .ireturn, 1, 0), (94, .aload_n 0, 1, 0), (95, .getfield 15, 3, 1203), (98, .iconst 2, 1, 0), (99, .iaload, 1, 0), (100, .ireturn, 1, 0), (101, .aload_n 0, 1, 0), (102, .getfield 15, 3, 1203),
  (105, .bipush 8, 2, 0), (107, .iaload, 1, 0), (108, .ireturn, 1, 0), (109, .aload_n 0, 1, 0), (110, .getfield 77, 3, 1237), (113, .iconst 0, 1, 0), (114, .iaload, 1, 0), (115, .ireturn, 1, 0),
  (116, .aload_n 0, 1, 0), (117, .getfield 80, 3, 1238), (120, .iconst 0, 1, 0), (121, .iaload, 1, 0), (122, .ireturn, 1, 0), (123, .aload_n 0, 1, 0), (124, .getfield 83, 3, 1239), (127, .iconst 0, 1, 0),
  (128, .iaload, 1, 0), (129, .ireturn, 1, 0), (130, .aload_n 0, 1, 0), (131, .getfield 306, 3, 1261), (134, .ireturn, 1, 0), (135, .aload_n 0, 1, 0), (136, .invokevirtual 491, 3, 271), (139, .ireturn, 1, 0),
  (140, .aload_n 0, 1, 0), (141, .getfield 313, 3, 1246), (144, .ireturn, 1, 0), (145, .aload_n 0, 1, 0), (146, .getfield 92, 3, 1242), (149, .iconst 0, 1, 0), (150, .iaload, 1, 0), (151, .ireturn, 1, 0),
  (152, .aload_n 0, 1, 0), (153, .getfield 86, 3, 1240), (156, .iconst 0, 1, 0), (157, .iaload, 1, 0), (158, .ireturn, 1, 0), (159, .aload_n 0, 1, 0), (160, .getfield 89, 3, 1241), (163, .iconst 0, 1, 0),
  (164, .iaload, 1, 0), (165, .ireturn, 1, 0), (166, .iconst 0, 1, 0), (167, .istore_n 3, 1, 0), (168, .iload_n 3, 1, 0), (169, .bipush 9, 2, 0), (171, .if_icmp .ge 18, 3, 0), (174, .iload_n 2, 1, 0),
  (175, .aload_n 0, 1, 0), (176, .getfield 98, 3, 1244), (179, .iload_n 3, 1, 0), (180, .iaload, 1, 0), (181, .iadd, 1, 0), (182, .istore_n 2, 1, 0), (183, .iinc 3 1, 3, 0), (186, .goto (-18), 3, 0),
  (189, .iload_n 2, 1, 0), (190, .ireturn, 1, 0), (191, .iconst (-1), 1, 0), (192, .ireturn, 1, 0)]
def pTs : List (List pEn) := [pT_0, pT_1, pT_2, pT_3, pT_4, pT_5, pT_6, pT_7, pT_8, pT_9, pT_10, pT_11, pT_12, pT_13, pT_14, pT_15,
  pT_16, pT_17, pT_18, pT_19, pT_20, pT_21, pT_22, pT_23, pT_24, pT_25, pT_26, pT_27, pT_28, pT_29, pT_30, pT_31,
  pT_32, pT_33, pT_34, pT_35, pT_36, pT_37, pT_38, pT_39, pT_40, pT_41, pT_42, pT_43, pT_44, pT_45, pT_46, pT_47,
  pT_48, pT_49, pT_50, pT_51, pT_52, pT_53, pT_54, pT_55, pT_56, pT_57, pT_58, pT_59, pT_60, pT_61, pT_62, pT_63,
  pT_64, pT_65, pT_66, pT_67, pT_68, pT_69, pT_70, pT_71, pT_72, pT_73, pT_74, pT_75, pT_76, pT_77, pT_78, pT_79,
  pT_80, pT_81, pT_82, pT_83, pT_84, pT_85, pT_86, pT_87, pT_88, pT_89, pT_90, pT_91, pT_92, pT_93, pT_94, pT_95,
  pT_96, pT_97, pT_98, pT_99, pT_100, pT_101, pT_102, pT_103, pT_104, pT_105, pT_106, pT_107, pT_108, pT_109, pT_110, pT_111,
  pT_112, pT_113, pT_114, pT_115, pT_116, pT_117, pT_118, pT_119, pT_120, pT_121, pT_122, pT_123, pT_124, pT_125, pT_126, pT_127,
  pT_128, pT_129, pT_130, pT_131, pT_132, pT_133, pT_134, pT_135, pT_136, pT_137, pT_138, pT_139, pT_140, pT_141, pT_142, pT_143,
  pT_144, pT_145, pT_146, pT_147, pT_148, pT_149, pT_150, pT_151, pT_152, pT_153, pT_154, pT_155, pT_156, pT_157, pT_158, pT_159,
  pT_160, pT_161, pT_162, pT_163, pT_164, pT_165, pT_166, pT_167, pT_168, pT_169, pT_170, pT_171, pT_172, pT_173, pT_174, pT_175,
  pT_176, pT_177, pT_178, pT_179, pT_180, pT_181, pT_182, pT_183, pT_184, pT_185, pT_186, pT_187, pT_188, pT_189, pT_190, pT_191,
  pT_192, pT_193, pT_194, pT_195, pT_196, pT_197, pT_198, pT_199, pT_200, pT_201, pT_202, pT_203, pT_204, pT_205, pT_206, pT_207,
  pT_208, pT_209, pT_210, pT_211, pT_212, pT_213, pT_214, pT_215, pT_216, pT_217, pT_218, pT_219, pT_220, pT_221, pT_222, pT_223,
  pT_224, pT_225, pT_226, pT_227, pT_228, pT_229, pT_230, pT_231, pT_232, pT_233, pT_234, pT_235, pT_236, pT_237, pT_238, pT_239,
  pT_240, pT_241, pT_242, pT_243, pT_244, pT_245, pT_246, pT_247, pT_248, pT_249, pT_250, pT_251, pT_252, pT_253, pT_254, pT_255,
  pT_256, pT_257, pT_258, pT_259, pT_260, pT_261, pT_262, pT_263, pT_264, pT_265, pT_266, pT_267, pT_268, pT_269, pT_270, pT_271,
  pT_272, pT_273, pT_274, pT_275, pT_276, pT_277, pT_278, pT_279, pT_280, pT_281]
end
section
/-! WHAT HOLDS OF EVERY METHOD'S ROW. -/
def pMok (M : pMe) : Bool := decide (M.2.1.cls = pR M.1) && plainFor M.2.1 && decide (M.2.1.cls ≠ "java/lang/invoke/MethodHandle") && decide (M.2.1.cls ≠ "java/lang/invoke/VarHandle") && decide ((parseMethodDescriptor M.2.1.desc).map (fun d => d.parameters.length) = some M.2.2.2.2.2) && decide (M.2.2.2.1 ≤ 40) && decide (M.1 < 17)
set_option maxRecDepth 100000 in
theorem pMs_ok : pMs.all pMok = true := by decide +kernel
theorem pMok_of {M : pMe} (h : M ∈ pMs) : M.2.1.cls = pR M.1 ∧ plainFor M.2.1 = true ∧ M.2.1.cls ≠ "java/lang/invoke/MethodHandle" ∧ M.2.1.cls ≠ "java/lang/invoke/VarHandle" ∧ (parseMethodDescriptor M.2.1.desc).map (fun d => d.parameters.length) = some M.2.2.2.2.2 ∧ M.2.2.2.1 ≤ 40 ∧ M.1 < 17 := by
  have h1 := List.all_eq_true.mp pMs_ok M h
  simp only [pMok, Bool.and_eq_true, decide_eq_true_eq] at h1
  exact ⟨h1.1.1.1.1.1.1, h1.1.1.1.1.1.2, h1.1.1.1.1.2, h1.1.1.1.2, h1.1.1.2, h1.1.2, h1.2⟩
set_option maxRecDepth 100000 in
theorem pini_all : pMs.all (fun M => !(M.2.1.name == "<init>") || M.2.2.2.2.1 == none) = true := by decide +kernel
theorem pini_ret {M : pMe} (h : M ∈ pMs) (hn : M.2.1.name = "<init>") : M.2.2.2.2.1 = none := by
  have h1 := List.all_eq_true.mp pini_all M h
  simpa [hn] using h1
end
section
/-! THE SMALL MACHINE: the heap as a list of objects and arrays (a reference is a place in it); one instruction as functions of locals, stack and heap. Tags: 0 .. 12 the classes, 20 int[], 21 byte[], 22 boolean[], 23 long[], 24 Bend[], 25 Goods[]. 'sy': ints that are not known may stand there, as floats. -/
abbrev pOb : Type := Nat × List Value
abbrev pHp : Type := List pOb
abbrev pLv : Type := List (Nat × Value)
def pGet : pLv → Nat → Option Value
  | [], _ => none
  | q :: l, i => if q.1 = i then some q.2 else pGet l i
def pPut1 (lv : pLv) (i : Nat) (v : Value) : pLv := (i, v) :: lv.filter (fun q => !(q.1 == i) && !(q.1 + 1 == i && q.2.category == 2))
def pPut2 (lv : pLv) (i : Nat) (v : Value) : pLv := (i, v) :: lv.filter (fun q => !(q.1 == i) && (!(q.1 == i + 1) && !(q.1 + 1 == i && q.2.category == 2)))
def pCmp (c : Jvm.ClassFile.Cond) (x y : Int32) : Bool := match c with
  | .eq => decide (x = y)
  | .ne => decide (¬ x = y)
  | .lt => decide (x < y)
  | .ge => decide (y ≤ x)
  | .gt => decide (y < x)
  | .le => decide (x ≤ y)
def pTo (pc : Nat) (off : Int) : Option Nat := if 0 ≤ (pc : Int) + off then some ((pc : Int) + off).toNat else none
def pIx (i : Int32) (n : Nat) : Option Nat := if i < 0 ∨ n ≤ i.toNatClampNeg then none else some i.toNatClampNeg
def pInt (sy : Bool) (v : Value) : Bool := match v with
  | .int _ => true
  | .float u => sy && decide (8 ≤ u.toNat)
  | _ => false
/-- references outside the heap: 0 the text of the language, 1 its bytes, 2 a thing of the JDK's that is never looked at -/
def pOut (v : Value) : Bool := match v with
  | .float u => decide (u.toNat < 2)
  | _ => false
def pLang : List Value := [.int 98, .int 101, .int 110, .int 100, .int 32, .int 103, .int 111, .int 111, .int 100, .int 115, .int 32, .int 98, .int 97, .int 103, .int 32, .int 100, .int 101, .int 112, .int 111, .int 116, .int 32, .int 116, .int 104, .int 105, .int 101, .int 102, .int 32, .int 119, .int 97, .int 114, .int 109, .int 32, .int 104, .int 111, .int 114, .int 115, .int 101, .int 32, .int 114, .int 111, .int 112, .int 101, .int 32, .int 115, .int 116, .int 111, .int 110, .int 101, .int 32, .int 115, .int 101, .int 101, .int 100, .int 32, .int 108, .int 97, .int 119, .int 32, .int 119, .int 105, .int 100, .int 101, .int 32, .int 119, .int 105, .int 110, .int 100, .int 32, .int 108, .int 105, .int 102, .int 116, .int 32, .int 112, .int 117, .int 108, .int 108, .int 32, .int 111, .int 114, .int 32, .int 97, .int 110, .int 100, .int 32, .int 110, .int 111, .int 116, .int 32, .int 115, .int 105, .int 122, .int 101, .int 32, .int 104, .int 101, .int 105, .int 103, .int 104, .int 116, .int 32, .int 97, .int 105, .int 114, .int 32, .int 104, .int 111, .int 117, .int 114, .int 32, .int 103, .int 117, .int 115, .int 116, .int 32, .int 115, .int 108, .int 111, .int 112, .int 101, .int 32]
def pRef (v : Value) : Bool := match v with
  | .ref _ => true
  | v => pOut v
/-- instructions of the stack alone: length, new stack -/
def pStk (i : Instr) (st : List Value) : Option (Nat × List Value) := match i with
  | .iconst n => some (1, .int (Int32.ofInt n) :: st)
  | .bipush n => some (2, .int (Int8.ofInt n).toInt32 :: st)
  | .sipush n => some (3, .int (Int16.ofInt n).toInt32 :: st)
  | .lconst n => some (1, .long (Int64.ofNat (n : Nat)) :: st)
  | .iadd => match st with | .int y :: .int x :: r => some (1, .int (x + y) :: r) | _ => none
  | .isub => match st with | .int y :: .int x :: r => some (1, .int (x - y) :: r) | _ => none
  | .imul => match st with | .int y :: .int x :: r => some (1, .int (x * y) :: r) | _ => none
  | .iand => match st with | .int y :: .int x :: r => some (1, .int (x &&& y) :: r) | _ => none
  | .ior => match st with | .int y :: .int x :: r => some (1, .int (x ||| y) :: r) | _ => none
  | .ixor => match st with | .int y :: .int x :: r => some (1, .int (x ^^^ y) :: r) | _ => none
  | .ishl => match st with | .int y :: .int x :: r => some (1, .int (x <<< (y &&& 31)) :: r) | _ => none
  | .ishr => match st with | .int y :: .int x :: r => some (1, .int (x >>> (y &&& 31)) :: r) | _ => none
  | .idiv => match st with | .int y :: .int x :: r => if y = 0 then none else some (1, .int (x / y) :: r) | _ => none
  | .irem => match st with | .int y :: .int x :: r => if y = 0 then none else some (1, .int (x - x / y * y) :: r) | _ => none
  | .ineg => match st with | .int x :: r => some (1, .int (-x) :: r) | _ => none
  | .i2l => match st with | .int x :: r => some (1, .long x.toInt64 :: r) | _ => none
  | .l2i => match st with | .long x :: r => some (1, .int x.toInt32 :: r) | _ => none
  | .i2c => match st with | .int x :: r => some (1, .int (x.toUInt32 % 65536).toInt32 :: r) | _ => none
  | .i2b => match st with | .int x :: r => some (1, .int x.toInt8.toInt32 :: r) | _ => none
  | .ladd => match st with | .long y :: .long x :: r => some (1, .long (x + y) :: r) | _ => none
  | .lsub => match st with | .long y :: .long x :: r => some (1, .long (x - y) :: r) | _ => none
  | .lmul => match st with | .long y :: .long x :: r => some (1, .long (x * y) :: r) | _ => none
  | .land => match st with | .long y :: .long x :: r => some (1, .long (x &&& y) :: r) | _ => none
  | .ldiv => match st with | .long y :: .long x :: r => if y = 0 then none else some (1, .long (x / y) :: r) | _ => none
  | .lrem => match st with | .long y :: .long x :: r => if y = 0 then none else some (1, .long (x - x / y * y) :: r) | _ => none
  | .lneg => match st with | .long x :: r => some (1, .long (-x) :: r) | _ => none
  | .lcmp => match st with | .long y :: .long x :: r => some (1, .int (lg_cmp x y) :: r) | _ => none
  | .dup => match st with | v :: r => if v.category = 1 then some (1, v :: v :: r) else none | _ => none
  | .pop => match st with | v :: r => if v.category = 1 then some (1, r) else none | _ => none
  | .dup2 => match st with | v :: w :: r => if v.category = 1 ∧ w.category = 1 then some (1, v :: w :: v :: w :: r) else none | _ => none
  | _ => none
/-- instructions of locals: length, new locals, new stack -/
def pLoc (sy : Bool) (mx : Nat) (i : Instr) (lv : pLv) (st : List Value) : Option (Nat × pLv × List Value) := match i with
  | .iload_n k => match pGet lv k with | some v => if pInt sy v = true then some (1, lv, v :: st) else none | none => none
  | .iload k => match pGet lv k with | some v => if pInt sy v = true then some (2, lv, v :: st) else none | none => none
  | .lload_n k => match pGet lv k with | some (.long x) => some (1, lv, .long x :: st) | _ => none
  | .lload k => match pGet lv k with | some (.long x) => some (2, lv, .long x :: st) | _ => none
  | .aload_n k => match pGet lv k with | some v => if pRef v = true then some (1, lv, v :: st) else none | none => none
  | .aload k => match pGet lv k with | some v => if pRef v = true then some (2, lv, v :: st) else none | none => none
  | .istore_n k => match st with | v :: r => if pInt sy v = true ∧ (k : Nat) < mx then some (1, pPut1 lv k v, r) else none | _ => none
  | .istore k => match st with | v :: r => if pInt sy v = true ∧ k < mx then some (2, pPut1 lv k v, r) else none | _ => none
  | .lstore_n k => match st with | .long x :: r => if (k : Nat) + 1 < mx then some (1, pPut2 lv k (.long x), r) else none | _ => none
  | .lstore k => match st with | .long x :: r => if k + 1 < mx then some (2, pPut2 lv k (.long x), r) else none | _ => none
  | .astore_n k => match st with | .ref x :: r => if (k : Nat) < mx then some (1, pPut1 lv k (.ref x), r) else none | _ => none
  | .astore k => match st with | .ref x :: r => if k < mx then some (2, pPut1 lv k (.ref x), r) else none | _ => none
  | .iinc k n => match pGet lv k with | some (.int x) => if k < mx then some (3, pPut1 lv k (.int (x + Int32.ofInt n)), st) else none | _ => none
  | _ => none
/-- jumps: the next place, new stack -/
def pJmp (i : Instr) (pc len : Nat) (st : List Value) : Option (Nat × List Value) := match i with
  | .goto off => if len = 3 then (pTo pc off).map (fun t => (t, st)) else none
  | .ifCond c off => match st with | .int x :: r => if len = 3 then (pTo pc off).map (fun t => (if pCmp c x 0 = true then t else pc + 3, r)) else none | _ => none
  | .if_icmp c off => match st with | .int y :: .int x :: r => if len = 3 then (pTo pc off).map (fun t => (if pCmp c x y = true then t else pc + 3, r)) else none | _ => none
  | .tableswitch d lo hi offs => match st with
    | .int x :: r => if x.toInt < lo ∨ hi < x.toInt then (pTo pc d).map (fun t => (t, r)) else match offs[(x.toInt - lo).toNat]? with | some o => (pTo pc o).map (fun t => (t, r)) | none => none
    | _ => none
  | .lookupswitch d ps => match st with
    | .int x :: r => if (ps.toList.zip (ps.toList.drop 1)).all (fun (a, next) => a.1 < next.1) = true then (pTo pc (Op.lookupswitch.offset ps.toList d x.toInt)).map (fun t => (t, r)) else none
    | _ => none
  | _ => none
def pDef (ci : Nat) : List Value := (List.range (pN ci)).map (fun k => defaultValue (pTy ci k))
def pAty (t : Nat) : FieldType := match t with
  | 20 => .int
  | 21 => .byte
  | 22 => .boolean
  | 23 => .long
  | 24 => .object RX1
  | _ => .object RX4
def pTag (t : ArrayType) : Option Nat := match t with
  | .int => some 20
  | .byte => some 21
  | .boolean => some 22
  | .long => some 23
  | _ => none
def pNoF (v : Value) : Bool := match v with
  | .float _ => false
  | _ => true
/-- may v be put into field k of class ci, by a method of class c ('ini': a constructor) -/
def pFit (sy : Bool) (c : Nat) (ini : Bool) (ci k : Nat) (v : Value) : Bool :=
  decide (k < pN ci) && ((sy && pInt true v && pTy ci k == .int) || (pNoF v && fits (pTy ci k) v && decide (narrow (pTy ci k) v = v))) && (!(pT ci k).2.2.2 || (ini && decide ((pT ci k).1 = pR c)))
def pLd (es : List Value) (x : Int32) : Option Value := match pIx x es.length with
  | some j => es[j]?
  | none => none
/-- instructions of the heap: length, new stack, new heap -/
def pMem (sy : Bool) (c : Nat) (ini : Bool) (i : Instr) (a : Nat) (st : List Value) (L : pHp) : Option (Nat × List Value × pHp) := match i with
  | .getfield _ => match st with
    | .ref o :: r => match L[o]? with
      | some q => if q.1 = a / 100 ∧ q.1 < 13 ∧ a % 100 < pN q.1 then (q.2[a % 100]?).map (fun v => (3, v :: r, L)) else none
      | none => none
    | _ => none
  | .putfield _ => match st with
    | v :: .ref o :: r => match L[o]? with
      | some q => if q.1 = a / 100 ∧ q.1 < 13 ∧ a % 100 < q.2.length ∧ pFit sy c ini q.1 (a % 100) v = true then some (3, r, L.set o (q.1, q.2.set (a % 100) v)) else none
      | none => none
    | _ => none
  | .iaload => match st with
    | .int x :: .ref o :: r => match L[o]? with
      | some q => if q.1 = 20 then (pLd q.2 x).map (fun v => (1, v :: r, L)) else none
      | none => none
    | _ => none
  | .baload => match st with
    | .int x :: .ref o :: r => match L[o]? with
      | some q => if q.1 = 21 ∨ q.1 = 22 then (pLd q.2 x).map (fun v => (1, v :: r, L)) else none
      | none => none
    | _ => none
  | .laload => match st with
    | .int x :: .ref o :: r => match L[o]? with
      | some q => if q.1 = 23 then (pLd q.2 x).map (fun v => (1, v :: r, L)) else none
      | none => none
    | _ => none
  | .aaload => match st with
    | .int x :: .ref o :: r => match L[o]? with
      | some q => if q.1 = 24 ∨ q.1 = 25 then (pLd q.2 x).map (fun v => (1, v :: r, L)) else none
      | none => none
    | _ => none
  | .iastore => match st with
    | v :: .int x :: .ref o :: r => match L[o]? with
      | some q => if q.1 = 20 ∧ pInt sy v = true then (pIx x q.2.length).map (fun j => (1, r, L.set o (q.1, q.2.set j v))) else none
      | none => none
    | _ => none
  | .bastore => match st with
    | v :: .int x :: .ref o :: r => match L[o]? with
      | some q => if (q.1 = 21 ∨ q.1 = 22) ∧ pInt false v = true then (pIx x q.2.length).map (fun j => (1, r, L.set o (q.1, q.2.set j (narrow (pAty q.1) v)))) else none
      | none => none
    | _ => none
  | .lastore => match st with
    | .long y :: .int x :: .ref o :: r => match L[o]? with
      | some q => if q.1 = 23 then (pIx x q.2.length).map (fun j => (1, r, L.set o (q.1, q.2.set j (.long y)))) else none
      | none => none
    | _ => none
  | .aastore => match st with
    | .ref v :: .int x :: .ref o :: r => match L[o]? with
      | some q => match L[v]? with
        | some w => if (q.1 = 24 ∧ w.1 = 1) ∨ (q.1 = 25 ∧ w.1 = 4) then (pIx x q.2.length).map (fun j => (1, r, L.set o (q.1, q.2.set j (.ref v)))) else none
        | none => none
      | none => none
    | _ => none
  | .arraylength => match st with
    | .ref o :: r => match L[o]? with
      | some q => if 20 ≤ q.1 ∧ q.1 ≤ 25 then some (1, .int (Int32.ofNat q.2.length) :: r, L) else none
      | none => none
    | _ => none
  | .new _ => if a < 13 then some (3, .ref L.length :: st, L ++ [(a, pDef a)]) else none
  | .newarray t => match st with
    | .int n :: r => match pTag t with
      | some g => if n < 0 ∨ 4096 < n.toNatClampNeg then none else some (2, .ref L.length :: r, L ++ [(g, List.replicate n.toNatClampNeg (defaultValue (pAty g)))])
      | none => none
    | _ => none
  | .anewarray _ => match st with
    | .int n :: r => if (a = 24 ∨ a = 25) ∧ ¬ (n < 0 ∨ 4096 < n.toNatClampNeg) then some (3, .ref L.length :: r, L ++ [(a, List.replicate n.toNatClampNeg .null)]) else none
    | _ => none
  | .ldc _ => match pKs[a]? with | some q => some (2, .int q.2.2 :: st, L) | none => none
  | .ldc_w _ => match pKs[a]? with | some q => some (3, .int q.2.2 :: st, L) | none => none
  | .ldc2_w _ => match pK2[a]? with | some q => some (3, .long q.2.2 :: st, L) | none => none
  | .invokestatic _ => match st with
    | .int n :: .int dp :: .ref d :: .int sp :: .ref o :: r => match L[o]? with
      | some q => match L[d]? with
        | some w => if a = 5000 ∧ q.1 = 20 ∧ w.1 = 20 ∧ ¬ sp < 0 ∧ ¬ dp < 0 ∧ ¬ n < 0 ∧ sp.toNatClampNeg + n.toNatClampNeg ≤ q.2.length ∧ dp.toNatClampNeg + n.toNatClampNeg ≤ w.2.length ∧ q.2.all (pInt sy) = true ∧ w.2.all (pInt sy) = true ∧ (r.map fun v => v.category).sum ≤ 8
          then some (3, r, L.set d (w.1, w.2.take dp.toNatClampNeg ++ ((q.2.drop sp.toNatClampNeg).take n.toNatClampNeg ++ w.2.drop (dp.toNatClampNeg + n.toNatClampNeg)))) else none
        | none => none
      | none => none
    | _ => none
  | .invokespecial _ => match st with
    | .ref _ :: r => if a = 4000 ∧ (r.map fun v => v.category).sum ≤ 8 then some (3, r, L) else none
    | _ => none
  | _ => none
/-- instructions of what lies outside: length, new stack -/
def pXtr (i : Instr) (a : Nat) (st : List Value) : Option (Nat × List Value) := match i with
  | .ldc _ => if a = 900 then some (2, .float 0 :: st) else none
  | .getstatic _ => if a = 9100 then some (3, .int 1 :: st) else if a = 9101 then some (3, .float 2 :: st) else none
  | .getfield _ => match st with
    | .float u :: r => if u = 0 ∧ a = 9000 then some (3, .float 1 :: r) else if u = 0 ∧ a = 9001 then some (3, .int 0 :: r) else none
    | _ => none
  | .arraylength => match st with
    | .float u :: r => if u = 1 then some (1, .int (Int32.ofNat pLang.length) :: r) else none
    | _ => none
  | .baload => match st with
    | .int x :: .float u :: r => if u = 1 then (pLd pLang x).map (fun v => (1, v :: r)) else none
    | _ => none
  | _ => none
/-- one instruction that is neither a call nor a return: from locals, stack and heap to the next place, locals, stack and heap -/
def pStp (M : pMe) (e : pEn) (lv : pLv) (st : List Value) (L : pHp) (t : Nat × pLv × List Value × pHp) : Prop :=
  (∃ st', pStk e.2.1 st = some (e.2.2.1, st') ∧ t = (e.1 + e.2.2.1, lv, st', L)) ∨ (∃ lv' st', pLoc false M.2.2.2.1 e.2.1 lv st = some (e.2.2.1, lv', st') ∧ t = (e.1 + e.2.2.1, lv', st', L)) ∨ (∃ pc' st', pJmp e.2.1 e.1 e.2.2.1 st = some (pc', st') ∧ t = (pc', lv, st', L)) ∨
  (∃ st', pXtr e.2.1 e.2.2.2 st = some (e.2.2.1, st') ∧ t = (e.1 + e.2.2.1, lv, st', L)) ∨ (∃ st' L', pMem false M.1 (M.2.1.name == "<init>") e.2.1 e.2.2.2 st L = some (e.2.2.1, st', L') ∧ t = (e.1 + e.2.2.1, lv, st', L'))
/-- a call by the tables: the method, its arguments (the receiver ahead), the stack below -/
def pArg (e : pEn) (st : List Value) (L : pHp) : Option (Nat × List Value × List Value) :=
  let K := e.2.2.2 % 1000
  let n := (pMt K).2.2.2.2.2
  if e.2.2.1 = 3 ∧ e.2.2.2 < 4000 ∧ K < pMs.length ∧ n ≤ st.length then
    match e.2.1 with
    | .invokestatic _ => if ((st.drop n).map fun v => v.category).sum ≤ 8 then some (K, (st.take n).reverse, st.drop n) else none
    | .invokevirtual _ => match st.drop n with
      | .ref o :: r => if (r.map fun v => v.category).sum ≤ 8 ∧ (L[o]?).map (fun q => q.1) = some (pMt K).1 ∧ (pMt K).1 < 13 then some (K, .ref o :: (st.take n).reverse, r) else none
      | .float u :: r => if (r.map fun v => v.category).sum ≤ 8 ∧ u = 0 ∧ (pMt K).1 = 14 then some (K, .float u :: (st.take n).reverse, r) else none
      | _ => none
    | .invokespecial _ => match st.drop n with
      | .ref o :: r => if (r.map fun v => v.category).sum ≤ 8 ∧ (pMt K).2.1.name = "<init>" then some (K, .ref o :: (st.take n).reverse, r) else none
      | _ => none
    | _ => none
  else none
/-- the end of a method -/
def pRet (rt : Option FieldType) (e : pEn) (st : List Value) : Option (Option Value) := if e.2.2.1 = 1 then (match e.2.1 with
  | .ireturn => match st, rt with | [.int x], some ty => if narrow ty (.int x) = .int x then some (some (.int x)) else none | _, _ => none
  | .lreturn => match st, rt with | [.long x], some .long => some (some (.long x)) | _, _ => none
  | .return_ => match st, rt with | [], none => some none | _, _ => none
  | _ => none) else none
abbrev pCl : Type := Nat → List Value → pHp → Option Value → pHp → Prop
/-- a run of a method's body from a place on, in at most n instructions -/
def pLoop (call : pCl) (M : pMe) (tab : List pEn) : Nat → Nat → pLv → List Value → pHp → Option Value → pHp → Prop
  | 0, _, _, _, _, _, _ => False
  | n + 1, pc, lv, st, L, rv, Lf => ∃ e : pEn, e ∈ tab ∧ e.1 = pc ∧ e.2.2.2 < 99999 ∧
      ((pRet M.2.2.2.2.1 e st = some rv ∧ Lf = L) ∨
       (∃ t : Nat × pLv × List Value × pHp, pStp M e lv st L t ∧ pLoop call M tab n t.1 t.2.1 t.2.2.1 t.2.2.2 rv Lf) ∨
       (∃ (q : Nat × List Value × List Value) (r1 : Option Value) (L1 : pHp), pArg e st L = some q ∧ call q.1 q.2.1 L r1 L1 ∧ pLoop call M tab n (pc + 3) lv (r1.toList ++ q.2.2) L1 rv Lf))
/-- a call, at most d deep -/
def pEx : Nat → pCl
  | 0 => fun _ _ _ _ _ => False
  | d + 1 => fun K args L rv Lf => (lg_sl args).length ≤ (pMt K).2.2.2.1 ∧ ∃ n, pLoop (pEx d) (pMt K) (pTs.getD K []) n 0 (lv_args 0 args) [] L rv Lf
end
section
/-! THE SMALL MACHINE AND THE GREAT ONE: a small heap as the machine's, from a base on. G: classes, slots, array classes, (base, the text, its bytes, the JDK's thing), the heap below the base. -/
abbrev pG : Type := (Nat → ClassId) × (Nat → Nat → Nat) × (Nat → ClassId) × (Nat × Nat × Nat × Value) × Heap
def pB (G : pG) : Nat := G.2.2.2.1.1
def pA (G : pG) : Nat → Prop := fun q => pB G ≤ q
def pSh (G : pG) : Value → Value
  | .ref k => .ref (pB G + k)
  | .float u => if u.toNat = 0 then .ref G.2.2.2.1.2.1 else if u.toNat = 1 then .ref G.2.2.2.1.2.2.1 else G.2.2.2.1.2.2.2
  | .int x => .int x
  | .long x => .long x
  | .double x => .double x
  | .null => .null
  | v => v
theorem psh_int (G : pG) (x : Int32) : pSh G (.int x) = .int x := rfl
theorem psh_long (G : pG) (x : Int64) : pSh G (.long x) = .long x := rfl
theorem psh_ref (G : pG) (k : Nat) : pSh G (.ref k) = .ref (pB G + k) := rfl
theorem psh_null (G : pG) : pSh G .null = .null := rfl
theorem psh_f0 (G : pG) : pSh G (.float 0) = .ref G.2.2.2.1.2.1 := rfl
theorem psh_f1 (G : pG) : pSh G (.float 1) = .ref G.2.2.2.1.2.2.1 := rfl
theorem psh_f2 (G : pG) : pSh G (.float 2) = G.2.2.2.1.2.2.2 := rfl
def pV1 (G : pG) : Prop := G.2.2.2.1.2.2.2.category = 1
theorem psh_cat {G : pG} (hV : pV1 G) (v : Value) : (pSh G v).category = v.category := by
  cases v with
  | float u =>
    show (if u.toNat = 0 then Value.ref G.2.2.2.1.2.1 else if u.toNat = 1 then .ref G.2.2.2.1.2.2.1 else G.2.2.2.1.2.2.2).category = _
    by_cases h0 : u.toNat = 0
    · rw [if_pos h0]; rfl
    · rw [if_neg h0]
      by_cases h1 : u.toNat = 1
      · rw [if_pos h1]; rfl
      · rw [if_neg h1]; exact hV
  | _ => rfl
theorem psh_cats {G : pG} (hV : pV1 G) (r : List Value) : ((r.map (pSh G)).map fun v => v.category) = r.map fun v => v.category := by
  rw [List.map_map]
  exact List.map_congr_left (fun v _ => psh_cat hV v)
def pSz (L : pHp) : Nat := (L.map (fun o => o.2.length)).sum
def pLm (G : pG) (lv : pLv) : pLv := lv.map (fun q => (q.1, pSh G q.2))
/-- a cell of the small heap in the great one (19: of a class that the small machine doesn't know) -/
def pAt (G : pG) (a : Nat) (o : pOb) (H : Heap) : Prop := (o.1 < 13 ∧ o.2.length = pN o.1 ∧ t_OB a (G.1 o.1) (pN o.1) (G.2.1 o.1) H (vp_V (o.2.map (pSh G)))) ∨
  (20 ≤ o.1 ∧ o.1 ≤ 25 ∧ H[a]? = some (arrV (G.2.2.1 o.1) o.2.length (fun j => pSh G (o.2.getD j .null)))) ∨ o.1 = 19
def pH (G : pG) (L : pHp) (H : Heap) : Prop := (∀ q, q < pB G → H[q]? = G.2.2.2.2[q]?) ∧ H.size = pB G + L.length ∧ ∀ (k : Nat) (o : pOb), L[k]? = some o → pAt G (pB G + k) o H
def pTys (G : pG) : List (ClassId × FieldType) := [(G.2.2.1 20, .int), (G.2.2.1 21, .byte), (G.2.2.1 22, .boolean), (G.2.2.1 23, .long), (G.2.2.1 24, .object RX1), (G.2.2.1 25, .object RX4)]
def pTx : String := "bend goods bag depot thief warm horse rope stone seed law wide wind lift pull or and not size height air hour gust slope "
/-- what holds of the tables, and of what lies outside -/
def pKk (G : pG) (U : State) : Prop := va_K (G.1, G.2.1) vwCl (pTys G) U ∧ (∀ q ∈ pC3, va_Nw (.methodLinkNest (pR q.1) q.2.1 (pMy (q.2.2 % 1000)) pHost) U) ∧ va_AO RX1 U ∧ va_AO RX4 U ∧ pV1 G ∧
  vk_R RX10 19 pTx G.2.2.2.1.2.1 U ∧ vk_R RX12 187 pTx G.2.2.2.1.2.1 U ∧ va_O RJ0 G.2.2.2.1.2.1 (pA G) U G.2.2.2.2 ∧ va_OF RJ0 "coder" "B" (.int 0) G.2.2.2.1.2.1 (pA G) U G.2.2.2.2 ∧ va_OF RJ0 "value" "[B" (.ref G.2.2.2.1.2.2.1) G.2.2.2.1.2.1 (pA G) U G.2.2.2.2 ∧
  va_T .byte G.2.2.2.1.2.2.1 pLang.length (fun j => pLang.getD j .null) (pA G) U G.2.2.2.2 ∧ va_Z RJ0 "COMPACT_STRINGS" "Z" (.int 1) (pA G) U G.2.2.2.2 ∧ va_Z RJ3 "SIOOBE_FORMATTER" "Ljava/util/function/BiFunction;" G.2.2.2.1.2.2.2 (pA G) U G.2.2.2.2
theorem pKk.warm {G : pG} {s U : State} (hW : s.WarmedH U.vm) (h : pKk G s) : pKk G U := by
  obtain ⟨h1, h2, h3, h4, h5, h6, h7, h8, h9, h10, h11, h12, h13⟩ := h
  exact ⟨va_K.moved hW.alike h1, fun q hq => va_Nw.warmM hW (h2 q hq), va_AO.moved hW.alike h3, va_AO.moved hW.alike h4, h5, vk_R.warm hW h6, vk_R.warm hW h7, va_O.moved hW.alike h8, va_OF.moved hW.alike h9, va_OF.moved hW.alike h10, va_T.moved hW.alike h11, va_Z.moved hW.alike h12, va_Z.moved hW.alike h13⟩
theorem pKk.same {G : pG} {u U : State} (hv : u.vm = U.vm) (h : pKk G u) : pKk G U := by
  have ha : u.vm.Alike U.vm := hv ▸ Vm.Alike.refl u.vm
  obtain ⟨h1, h2, h3, h4, h5, h6, h7, h8, h9, h10, h11, h12, h13⟩ := h
  exact ⟨va_K.moved ha h1, fun q hq => va_Nw.same rfl hv (h2 q hq), va_AO.moved ha h3, va_AO.moved ha h4, h5, vk_R.same hv.symm h6, vk_R.same hv.symm h7, va_O.moved ha h8, va_OF.moved ha h9, va_OF.moved ha h10, va_T.moved ha h11, va_Z.moved ha h12, va_Z.moved ha h13⟩
-- the tables of the classes, by number
theorem pCl_at : ∀ ci, ci < 13 → vwCl[ci]? = some (pR ci, pT ci, pN ci) := by
  intro ci h
  match ci, h with
  | 0, _ => rfl
  | 1, _ => rfl
  | 2, _ => rfl
  | 3, _ => rfl
  | 4, _ => rfl
  | 5, _ => rfl
  | 6, _ => rfl
  | 7, _ => rfl
  | 8, _ => rfl
  | 9, _ => rfl
  | 10, _ => rfl
  | 11, _ => rfl
  | 12, _ => rfl
  | n + 13, h => exact absurd h (by omega)
theorem pTy_ok : ∀ ci, ci < 13 → ∀ k, k < pN ci → parseFieldDescriptor (pT ci k).2.2.1 = some (pTy ci k) := by
  intro ci h
  match ci, h with
  | 0, _ => exact tyX0_ok
  | 1, _ => exact tyX1_ok
  | 2, _ => exact tyX2_ok
  | 3, _ => exact tyX3_ok
  | 4, _ => exact tyX4_ok
  | 5, _ => exact tyX5_ok
  | 6, _ => exact tyX6_ok
  | 7, _ => exact tyX7_ok
  | 8, _ => exact tyX8_ok
  | 9, _ => exact tyX9_ok
  | 10, _ => exact tyX10_ok
  | 11, _ => exact tyX11_ok
  | 12, _ => exact tyX12_ok
  | n + 13, h => exact absurd h (by omega)
theorem pNm_ok : ∀ ci, ci < 13 → ∀ a, a < pN ci → ∀ b, b < pN ci → a ≠ b → (pT ci a).2.1 ≠ (pT ci b).2.1 := by
  intro ci h
  match ci, h with
  | 0, _ => exact nmX0
  | 1, _ => exact nmX1
  | 2, _ => exact nmX2
  | 3, _ => exact nmX3
  | 4, _ => exact nmX4
  | 5, _ => exact nmX5
  | 6, _ => exact nmX6
  | 7, _ => exact nmX7
  | 8, _ => exact nmX8
  | 9, _ => exact nmX9
  | 10, _ => exact nmX10
  | 11, _ => exact nmX11
  | 12, _ => exact nmX12
  | n + 13, h => exact absurd h (by omega)
theorem pUu_all : ∀ ci, ci < 13 → ∀ k, k < pN ci → (ci, k) ∈ pUu := by decide +kernel
/-- all words, but a method's own -/
def pAll : List Cond := pMs.map pWm ++ (pFs.map pWf ++ (pCs.map pWc ++ (pJs.map pWj ++ (pSs.map pWs ++ (pTt.map pWt ++ (pKs.map pWk ++ (pK2.map pWl ++ (pNs.map pWn ++ (pAn.map pWa ++ (pIz.map pWi ++ (pZz.map pWz ++ (pUu.map pWu ++ (pQs.map pWq ++ (pXx.map pWx ++ [.instanceMethod objectInit, .code objectInit ⟨#[0xb1]⟩ 1 none, .native arraycopyName, .static arraycopyName, .initialized "java/lang/System"]))))))))))))))
section PA
variable {w : Cond}
theorem pa_m {M : pMe} (h : M ∈ pMs) : pWm M ∈ pAll := List.mem_append_left _ (List.mem_map_of_mem h)
theorem pa_f {q : Nat × Nat × Nat} (h : q ∈ pFs) : pWf q ∈ pAll := List.mem_append_right _ (List.mem_append_left _ (List.mem_map_of_mem h))
theorem pa_c {q : Nat × Nat × Nat} (h : q ∈ pCs) : pWc q ∈ pAll := List.mem_append_right _ (List.mem_append_right _ (List.mem_append_left _ (List.mem_map_of_mem h)))
theorem pa_j {q : Nat} (h : q ∈ pJs) : pWj q ∈ pAll := List.mem_append_right _ (List.mem_append_right _ (List.mem_append_right _ (List.mem_append_left _ (List.mem_map_of_mem h))))
theorem pa_s {q : Nat} (h : q ∈ pSs) : pWs q ∈ pAll := List.mem_append_right _ (List.mem_append_right _ (List.mem_append_right _ (List.mem_append_right _ (List.mem_append_left _ (List.mem_map_of_mem h)))))
theorem pa_t {q : Nat} (h : q ∈ pTt) : pWt q ∈ pAll := List.mem_append_right _ (List.mem_append_right _ (List.mem_append_right _ (List.mem_append_right _ (List.mem_append_right _ (List.mem_append_left _ (List.mem_map_of_mem h))))))
def pAll7 : List Cond := pKs.map pWk ++ (pK2.map pWl ++ (pNs.map pWn ++ (pAn.map pWa ++ (pIz.map pWi ++ (pZz.map pWz ++ (pUu.map pWu ++ (pQs.map pWq ++ (pXx.map pWx ++ [.instanceMethod objectInit, .code objectInit ⟨#[0xb1]⟩ 1 none, .native arraycopyName, .static arraycopyName, .initialized "java/lang/System"]))))))))
theorem pa_7 (h : w ∈ pAll7) : w ∈ pAll := List.mem_append_right _ (List.mem_append_right _ (List.mem_append_right _ (List.mem_append_right _ (List.mem_append_right _ (List.mem_append_right _ h)))))
theorem pa_k {q : Nat × Nat × Int32} (h : q ∈ pKs) : pWk q ∈ pAll := pa_7 (List.mem_append_left _ (List.mem_map_of_mem h))
theorem pa_l {q : Nat × Nat × Int64} (h : q ∈ pK2) : pWl q ∈ pAll := pa_7 (List.mem_append_right _ (List.mem_append_left _ (List.mem_map_of_mem h)))
theorem pa_n {q : Nat × Nat × Nat} (h : q ∈ pNs) : pWn q ∈ pAll := pa_7 (List.mem_append_right _ (List.mem_append_right _ (List.mem_append_left _ (List.mem_map_of_mem h))))
theorem pa_a {q : Nat × Nat × Nat} (h : q ∈ pAn) : pWa q ∈ pAll := pa_7 (List.mem_append_right _ (List.mem_append_right _ (List.mem_append_right _ (List.mem_append_left _ (List.mem_map_of_mem h)))))
theorem pa_i {q : Nat} (h : q ∈ pIz) : pWi q ∈ pAll := pa_7 (List.mem_append_right _ (List.mem_append_right _ (List.mem_append_right _ (List.mem_append_right _ (List.mem_append_left _ (List.mem_map_of_mem h))))))
theorem pa_z {q : Nat} (h : q ∈ pZz) : pWz q ∈ pAll := pa_7 (List.mem_append_right _ (List.mem_append_right _ (List.mem_append_right _ (List.mem_append_right _ (List.mem_append_right _ (List.mem_append_left _ (List.mem_map_of_mem h)))))))
theorem pa_u {q : Nat × Nat} (h : q ∈ pUu) : pWu q ∈ pAll := pa_7 (List.mem_append_right _ (List.mem_append_right _ (List.mem_append_right _ (List.mem_append_right _ (List.mem_append_right _ (List.mem_append_right _ (List.mem_append_left _ (List.mem_map_of_mem h))))))))
theorem pa_q {q : Nat × Nat × Nat} (h : q ∈ pQs) : pWq q ∈ pAll := pa_7 (List.mem_append_right _ (List.mem_append_right _ (List.mem_append_right _ (List.mem_append_right _ (List.mem_append_right _ (List.mem_append_right _ (List.mem_append_right _ (List.mem_append_left _ (List.mem_map_of_mem h)))))))))
theorem pa_x {q : FieldType} (h : q ∈ pXx) : pWx q ∈ pAll := pa_7 (List.mem_append_right _ (List.mem_append_right _ (List.mem_append_right _ (List.mem_append_right _ (List.mem_append_right _ (List.mem_append_right _ (List.mem_append_right _ (List.mem_append_right _ (List.mem_append_left _ (List.mem_map_of_mem h))))))))))
theorem pa_o (h : w ∈ ([.instanceMethod objectInit, .code objectInit ⟨#[0xb1]⟩ 1 none, .native arraycopyName, .static arraycopyName, .initialized "java/lang/System"] : List Cond)) : w ∈ pAll := pa_7 (List.mem_append_right _ (List.mem_append_right _ (List.mem_append_right _ (List.mem_append_right _ (List.mem_append_right _ (List.mem_append_right _ (List.mem_append_right _ (List.mem_append_right _ (List.mem_append_right _ h)))))))))
end PA
set_option maxRecDepth 100000 in
theorem pAll_good : GoodIn lw_tbl pAll := goodIn_app pIn_m (goodIn_app pIn_f (goodIn_app pIn_c (goodIn_app pIn_j (goodIn_app pIn_s (goodIn_app pIn_t (goodIn_app pIn_k (goodIn_app pIn_l (goodIn_app pIn_n (goodIn_app pIn_a (goodIn_app pIn_i (goodIn_app pIn_z (goodIn_app pIn_u (goodIn_app pIn_q (goodIn_app pIn_x (gi_c (pt_1 _ (List.mem_of_getElem? (i := 31) rfl)) rfl (gi_c (pt_1 _ (List.mem_of_getElem? (i := 32) rfl)) rfl (gi_c (pt_4 _ (List.mem_of_getElem? (i := 184) rfl)) rfl (gi_c (pt_4 _ (List.mem_of_getElem? (i := 183) rfl)) rfl (gi_c (pt_1 _ (List.mem_of_getElem? (i := 24) rfl)) rfl (gi_n))))))))))))))))))))
theorem pLay_in {ci : Nat} (h : ci < 13) : ∀ w ∈ u_ws (pR ci) (pT ci) (pN ci), w ∈ pAll := by
  intro w hw
  obtain ⟨k, hk, rfl⟩ := List.mem_map.mp hw
  exact pa_u (pUu_all ci h k (List.mem_range.mp hk))
def pWM (M : pMe) : List Cond := pWm M :: pAll
theorem pWM_good {M K : pMe} (hK : K ∈ pMs) : GoodIn (pWM M) (pWM K) := by
  intro w hw
  rcases List.mem_cons.mp hw with rfl | hw
  · exact ⟨List.mem_cons_of_mem _ (pa_m hK), (pAll_good _ (pa_m hK)).2⟩
  · exact ⟨List.mem_cons_of_mem _ hw, (pAll_good _ hw).2⟩
-- locals
theorem pget_mem {lv : pLv} {i : Nat} {v : Value} : pGet lv i = some v → (i, v) ∈ lv := by
  induction lv with
  | nil => intro h; cases h
  | cons q l ih =>
    intro h
    rw [pGet] at h
    by_cases hq : q.1 = i
    · rw [if_pos hq] at h
      cases h
      rw [← hq]
      exact List.mem_cons_self
    · rw [if_neg hq] at h
      exact List.mem_cons_of_mem _ (ih h)
theorem pget_at {G : pG} {ls : Array Slot} {n : Nat} {lv : pLv} {i : Nat} {v : Value} (hl : lv_has ls n (pLm G lv)) (h : pGet lv i = some v) : ls[i]? = some (.val (pSh G v)) :=
  hl.2.2 (i, pSh G v) (List.mem_map.mpr ⟨(i, v), pget_mem h, rfl⟩)
theorem pput1_map {G : pG} (hV : pV1 G) (lv : pLv) (i : Nat) (v : Value) : (i, pSh G v) :: (pLm G lv).filter (fun q => !(q.1 == i) && !(q.1 + 1 == i && q.2.category == 2)) = pLm G (pPut1 lv i v) := by
  simp only [pPut1, pLm, List.map_cons, List.filter_map, List.cons.injEq, true_and]
  congr 1
  apply List.filter_congr
  intro q _
  simp only [Function.comp, psh_cat hV]
theorem pput2_map {G : pG} (hV : pV1 G) (lv : pLv) (i : Nat) (v : Value) : (i, pSh G v) :: (pLm G lv).filter (fun q => !(q.1 == i) && (!(q.1 == i + 1) && !(q.1 + 1 == i && q.2.category == 2))) = pLm G (pPut2 lv i v) := by
  simp only [pPut2, pLm, List.map_cons, List.filter_map, List.cons.injEq, true_and]
  congr 1
  apply List.filter_congr
  intro q _
  simp only [Function.comp, psh_cat hV]
theorem pargs_map {G : pG} (hV : pV1 G) : ∀ (vs : List Value) (i : Nat), lv_args i (vs.map (pSh G)) = pLm G (lv_args i vs)
  | [], _ => rfl
  | v :: vs, i => by
    rw [List.map_cons, lv_args, lv_args, psh_cat hV, pargs_map hV vs]
    rfl
-- the heap
theorem pAt.kept {G : pG} {a : Nat} {o : pOb} {H H1 : Heap} (h : pAt G a o H) (hq : H1[a]? = H[a]?) : pAt G a o H1 := by
  rcases h with ⟨h1, h2, h3⟩ | ⟨h1, h2, h3⟩ | h1
  · exact Or.inl ⟨h1, h2, h3.kept hq⟩
  · exact Or.inr (Or.inl ⟨h1, h2, hq.trans h3⟩)
  · exact Or.inr (Or.inr h1)
theorem ph_set {G : pG} {L : pHp} {H H1 : Heap} {o : Nat} {q q1 : pOb} (h : pH G L H) (ho : L[o]? = some q) (he : pAt G (pB G + o) q1 H1) (hz : H1.size = H.size) (hq : ∀ x, x ≠ pB G + o → H1[x]? = H[x]?) : pH G (L.set o q1) H1 := by
  obtain ⟨h1, h2, h3⟩ := h
  have hl := (List.getElem?_eq_some_iff.mp ho).1
  refine ⟨fun x hx => (hq x (by omega)).trans (h1 x hx), by rw [hz, h2, List.length_set], fun k r hk => ?_⟩
  by_cases hko : k = o
  · subst hko
    rw [List.getElem?_set_self hl] at hk
    cases hk
    exact he
  · rw [List.getElem?_set_ne (Ne.symm hko)] at hk
    exact (h3 k r hk).kept (hq _ (by omega))
theorem ph_push {G : pG} {L : pHp} {H H1 : Heap} {q1 : pOb} (h : pH G L H) (he : pAt G (pB G + L.length) q1 H1) (hz : H1.size = H.size + 1) (hq : ∀ x, x < H.size → H1[x]? = H[x]?) : pH G (L ++ [q1]) H1 := by
  obtain ⟨h1, h2, h3⟩ := h
  refine ⟨fun x hx => (hq x (by omega)).trans (h1 x hx), by rw [hz, h2, List.length_append]; rfl, fun k r hk => ?_⟩
  by_cases hko : k < L.length
  · rw [List.getElem?_append_left hko] at hk
    exact (h3 k r hk).kept (hq _ (by omega))
  · rw [List.getElem?_append_right (by omega)] at hk
    have hz : k - L.length < 1 := (List.getElem?_eq_some_iff.mp hk).1
    have hk0 : k = L.length := by omega
    subst hk0
    rw [Nat.sub_self] at hk
    cases hk
    exact he
theorem psz_set {L : pHp} {o : Nat} {q q1 : pOb} (ho : L[o]? = some q) (h : q1.2.length = q.2.length) : pSz (L.set o q1) = pSz L := by
  have e : (L.set o q1).map (fun x => x.2.length) = L.map (fun x => x.2.length) := by
    apply List.ext_getElem?
    intro i
    rw [List.getElem?_map, List.getElem?_map]
    by_cases hi : i = o
    · subst hi
      rw [List.getElem?_set_self (List.getElem?_eq_some_iff.mp ho).1, ho]
      simp [h]
    · rw [List.getElem?_set_ne (Ne.symm hi)]
  rw [pSz, e, pSz]
theorem psz_push (L : pHp) (q : pOb) : pSz (L ++ [q]) = pSz L + q.2.length := by
  simp [pSz]
/-- since the method's start nothing below the base has changed -/
theorem ph_S {G : pG} {L0 L : pHp} {s : State} {H : Heap} {locs : List Loc} (h0 : pH G L0 s.heap) (h : pH G L H) (hn : L0.length ≤ L.length) (hl : ∀ q ∈ locs, pB G ≤ q.base) : va_S (pA G) s.heap H locs :=
  ⟨by rw [h0.2.1, h.2.1]; omega, fun q _ hq => (h.1 q (Nat.not_le.mp hq)).trans (h0.1 q (Nat.not_le.mp hq)).symm, hl⟩
theorem ph_keep {G : pG} {L0 : pHp} {s : State} (h0 : pH G L0 s.heap) : ∀ a : Nat, a < G.2.2.2.2.size → ¬ pA G a → s.heap[a]? = G.2.2.2.2[a]? := fun a _ ha => h0.1 a (Nat.not_le.mp ha)
end
section
/-! ONE INSTRUCTION of the small machine is one of the great one. -/
section STP
variable {p : Program} {l : Launch} {e : Env} {R : Room} {s : State} {m : MethodId} {args : Array Value} {below : List Frame} {meth : Method} {c : Code} {H : Heap} {locs : List Loc} {cells slots : Nat} {Q : State → Prop}
variable {cc : ByteArray} {pc : Nat} {ls : Array Slot} {G : pG}
set_option maxHeartbeats 4000000 in
theorem ps_stk (hx : p.tables.exec = Jvm.exec) (hb : c.code = cc) (hV : pV1 G) {i : Instr} {k : Nat} {st st' : List Value} (h : pStk i st = some (k, st')) (hd : decode cc pc = .ok (i, k))
    (kk : W p l e R s m args below meth c H locs cells slots Q (F0 m (pc + k) ls (st'.map (pSh G)))) : W p l e R s m args below meth c H locs cells slots Q (F0 m pc ls (st.map (pSh G))) := by
  unfold pStk at h
  split at h
  case h_1 => cases h; exact lv_iconst hx hb hd rfl kk
  case h_2 => cases h; exact lv_bipush hx hb hd rfl kk
  case h_3 => cases h; exact lv_sipush hx hb hd rfl kk
  case h_4 => cases h; exact lv_lconst hx hb hd rfl kk
  case h_5 =>
    split at h
    · cases h
      exact lv_iadd hx hb hd kk
    · cases h
  case h_6 =>
    split at h
    · cases h
      exact lv_isub hx hb hd kk
    · cases h
  case h_7 =>
    split at h
    · cases h
      exact lv_imul hx hb hd kk
    · cases h
  case h_8 =>
    split at h
    · cases h
      exact lv_iand hx hb hd kk
    · cases h
  case h_9 =>
    split at h
    · cases h
      exact lv_ior hx hb hd kk
    · cases h
  case h_10 =>
    split at h
    · cases h
      exact lv_ixor hx hb hd kk
    · cases h
  case h_11 =>
    split at h
    · cases h
      exact lv_ishl hx hb hd kk
    · cases h
  case h_12 =>
    split at h
    · cases h
      exact lv_ishr hx hb hd kk
    · cases h
  case h_13 =>
    split at h
    · split at h
      · cases h
      · rename_i hc
        cases h
        exact lv_idiv hx hb hd hc kk
    · cases h
  case h_14 =>
    split at h
    · split at h
      · cases h
      · rename_i hc
        cases h
        exact lv_irem hx hb hd hc kk
    · cases h
  case h_15 =>
    split at h
    · cases h
      exact lv_ineg hx hb hd kk
    · cases h
  case h_16 =>
    split at h
    · cases h
      exact lv_i2l hx hb hd rfl kk
    · cases h
  case h_17 =>
    split at h
    · cases h
      exact lv_l2i hx hb hd rfl kk
    · cases h
  case h_18 =>
    split at h
    · cases h
      exact lv_i2c hx hb hd rfl kk
    · cases h
  case h_19 =>
    split at h
    · cases h
      exact lv_i2b hx hb hd rfl kk
    · cases h
  case h_20 =>
    split at h
    · cases h
      exact lv_ladd hx hb hd kk
    · cases h
  case h_21 =>
    split at h
    · cases h
      exact lv_lsub hx hb hd kk
    · cases h
  case h_22 =>
    split at h
    · cases h
      exact lv_lmul hx hb hd kk
    · cases h
  case h_23 =>
    split at h
    · cases h
      exact lv_land hx hb hd kk
    · cases h
  case h_24 =>
    split at h
    · split at h
      · cases h
      · rename_i hc
        cases h
        exact lv_ldiv hx hb hd hc kk
    · cases h
  case h_25 =>
    split at h
    · split at h
      · cases h
      · rename_i hc
        cases h
        exact lv_lrem hx hb hd hc kk
    · cases h
  case h_26 =>
    split at h
    · cases h
      exact lv_lneg hx hb hd kk
    · cases h
  case h_27 =>
    split at h
    · cases h
      exact W.lcmp hx hb hd kk
    · cases h
  case h_28 =>
    split at h
    · split at h
      · rename_i hc
        cases h
        exact lv_dup hx hb hd (by rw [psh_cat hV]; exact hc) kk
      · cases h
    · cases h
  case h_29 =>
    split at h
    · split at h
      · rename_i hc
        cases h
        exact lv_pop hx hb hd (by rw [psh_cat hV]; exact hc) kk
      · cases h
    · cases h
  case h_30 =>
    split at h
    · split at h
      · rename_i hc
        cases h
        exact lv_dup2_11 hx hb hd (by rw [psh_cat hV]; exact hc.1) (by rw [psh_cat hV]; exact hc.2) kk
      · cases h
    · cases h
  case h_31 => cases h
theorem pint_of {v : Value} (h : pInt false v = true) : ∃ x, v = .int x := by
  cases v with
  | int x => exact ⟨x, rfl⟩
  | _ => cases h
theorem pLang_ints : pLang.all (pInt false) = true := by decide +kernel
theorem pref_of {G : pG} {v : Value} (h : pRef v = true) : ∃ a, pSh G v = .ref a := by
  cases v with
  | ref k => exact ⟨_, rfl⟩
  | float u =>
    have hu : u.toNat < 2 := by simpa [pRef, pOut] using h
    show ∃ a, (if u.toNat = 0 then Value.ref G.2.2.2.1.2.1 else if u.toNat = 1 then .ref G.2.2.2.1.2.2.1 else G.2.2.2.1.2.2.2) = .ref a
    by_cases h0 : u.toNat = 0
    · exact ⟨_, if_pos h0⟩
    · exact ⟨_, (if_neg h0).trans (if_pos (by omega))⟩
  | _ => cases h
set_option maxHeartbeats 4000000 in
theorem ps_loc (hx : p.tables.exec = Jvm.exec) (hb : c.code = cc) (hV : pV1 G) {i : Instr} {k mx : Nat} {lv lv' : pLv} {st st' : List Value} (h : pLoc false mx i lv st = some (k, lv', st')) (hd : decode cc pc = .ok (i, k)) (hl : lv_has ls mx (pLm G lv))
    (kk : ∀ ls', lv_has ls' mx (pLm G lv') → W p l e R s m args below meth c H locs cells slots Q (F0 m (pc + k) ls' (st'.map (pSh G)))) : W p l e R s m args below meth c H locs cells slots Q (F0 m pc ls (st.map (pSh G))) := by
  unfold pLoc at h
  split at h
  case h_1 =>
    split at h
    · rename_i v hg
      split at h
      · rename_i hv
        obtain ⟨x, rfl⟩ := pint_of hv
        cases h
        exact lv_iload_n hx hb hd rfl (pget_at hl hg) (kk ls hl)
      · cases h
    · cases h
  case h_2 =>
    split at h
    · rename_i v hg
      split at h
      · rename_i hv
        obtain ⟨x, rfl⟩ := pint_of hv
        cases h
        exact lv_iload hx hb hd (pget_at hl hg) (kk ls hl)
      · cases h
    · cases h
  case h_3 =>
    split at h
    · rename_i x hg
      cases h
      exact lv_lload_n hx hb hd rfl (pget_at hl hg) (kk ls hl)
    · cases h
  case h_4 =>
    split at h
    · rename_i x hg
      cases h
      exact lv_lload hx hb hd (pget_at hl hg) (kk ls hl)
    · cases h
  case h_5 =>
    split at h
    · rename_i v hg
      split at h
      · rename_i hv
        obtain ⟨a, ha⟩ := pref_of (G := G) hv
        cases h
        have hk := kk ls hl
        rw [List.map_cons, ha] at hk
        exact lv_aload_n hx hb hd rfl (by rw [← ha]; exact pget_at hl hg) hk
      · cases h
    · cases h
  case h_6 =>
    split at h
    · rename_i v hg
      split at h
      · rename_i hv
        obtain ⟨a, ha⟩ := pref_of (G := G) hv
        cases h
        have hk := kk ls hl
        rw [List.map_cons, ha] at hk
        exact lv_aload hx hb hd (by rw [← ha]; exact pget_at hl hg) hk
      · cases h
    · cases h
  case h_7 =>
    split at h
    · split at h
      · rename_i hv
        obtain ⟨x, rfl⟩ := pint_of hv.1
        cases h
        exact lv_istore_n hx hb hd rfl hl hv.2 (pput1_map hV _ _ (.int x)) kk
      · cases h
    · cases h
  case h_8 =>
    split at h
    · split at h
      · rename_i hv
        obtain ⟨x, rfl⟩ := pint_of hv.1
        cases h
        exact lv_istore hx hb hd hl hv.2 (pput1_map hV _ _ (.int x)) kk
      · cases h
    · cases h
  case h_9 =>
    split at h
    · rename_i x r
      split at h
      · rename_i hv
        cases h
        exact lv_lstore_n hx hb hd rfl hl hv (pput2_map hV _ _ (.long x)) kk
      · cases h
    · cases h
  case h_10 =>
    split at h
    · rename_i x r
      split at h
      · rename_i hv
        cases h
        exact lv_lstore hx hb hd hl hv (pput2_map hV _ _ (.long x)) kk
      · cases h
    · cases h
  case h_11 =>
    split at h
    · rename_i x r
      split at h
      · rename_i hv
        cases h
        exact lv_astore_n hx hb hd rfl hl hv (pput1_map hV _ _ (.ref x)) kk
      · cases h
    · cases h
  case h_12 =>
    split at h
    · rename_i x r
      split at h
      · rename_i hv
        cases h
        exact lv_astore hx hb hd hl hv (pput1_map hV _ _ (.ref x)) kk
      · cases h
    · cases h
  case h_13 =>
    split at h
    · rename_i x hg
      split at h
      · rename_i hv
        cases h
        obtain ⟨j, hj⟩ := List.getElem?_of_mem (List.mem_map.mpr ⟨_, pget_mem hg, rfl⟩ : _ ∈ pLm G lv)
        exact lv_iinc hx hb hd hl hj rfl hv (pput1_map hV lv _ (.int _)) kk
      · cases h
    · cases h
  case h_14 => cases h
theorem pto_of {pc : Nat} {off : Int} {t : Nat} (h : pTo pc off = some t) : (pc : Int) + off = (t : Int) := by
  unfold pTo at h
  split at h
  · cases h
    omega
  · cases h
theorem pto_map {α : Type} {pc : Nat} {off : Int} {f : Nat → α} {r : α} (h : (pTo pc off).map f = some r) : ∃ t : Nat, (pc : Int) + off = (t : Int) ∧ f t = r := by
  cases hp : pTo pc off with
  | none => rw [hp] at h; cases h
  | some t' =>
    rw [hp] at h
    exact ⟨t', pto_of hp, Option.some.inj h⟩
set_option maxHeartbeats 4000000 in
theorem ps_jmp (hx : p.tables.exec = Jvm.exec) (hb : c.code = cc) {i : Instr} {t len : Nat} {st st' : List Value} (h : pJmp i pc len st = some (t, st')) (hd : decode cc pc = .ok (i, len))
    (kk : W p l e R s m args below meth c H locs cells slots Q (F0 m t ls (st'.map (pSh G)))) : W p l e R s m args below meth c H locs cells slots Q (F0 m pc ls (st.map (pSh G))) := by
  unfold pJmp at h
  split at h
  · split at h
    · rename_i hl
      subst hl
      obtain ⟨t', h1, h2⟩ := pto_map h
      cases h2
      exact lv_goto hx hb hd h1 kk
    · cases h
  · rename_i cd off
    split at h
    · rename_i x r
      split at h
      · rename_i hl
        subst hl
        obtain ⟨t', h1, h2⟩ := pto_map h
        obtain ⟨h3, rfl⟩ := Prod.mk.inj h2
        have kt : pCmp cd x 0 = true → W p l e R s m args below meth c H locs cells slots Q (F0 m t' ls (r.map (pSh G))) := fun hc => by rw [if_pos hc] at h3; rw [h3]; exact kk
        have kf : ¬ pCmp cd x 0 = true → W p l e R s m args below meth c H locs cells slots Q (F0 m (pc + 3) ls (r.map (pSh G))) := fun hc => by rw [if_neg hc] at h3; rw [h3]; exact kk
        rw [List.map_cons, psh_int]
        cases cd with
        | eq => exact lv_if_eq hx hb hd h1 (fun q => kt (decide_eq_true q)) (fun q => kf (fun z => q (of_decide_eq_true z)))
        | ne => exact lv_if_ne hx hb hd h1 (fun q => kt (decide_eq_true q)) (fun q => kf (fun z => (of_decide_eq_true z) q))
        | lt => exact lv_if_lt hx hb hd h1 (fun q => kt (decide_eq_true q)) (fun q => kf (fun z => q (of_decide_eq_true z)))
        | ge => exact lv_if_ge hx hb hd h1 (fun q => kt (decide_eq_true q)) (fun q => kf (fun z => q (of_decide_eq_true z)))
        | gt => exact lv_if_gt hx hb hd h1 (fun q => kt (decide_eq_true q)) (fun q => kf (fun z => q (of_decide_eq_true z)))
        | le => exact lv_if_le hx hb hd h1 (fun q => kt (decide_eq_true q)) (fun q => kf (fun z => q (of_decide_eq_true z)))
      · cases h
    · cases h
  · rename_i cd off
    split at h
    · rename_i y x r
      split at h
      · rename_i hl
        subst hl
        obtain ⟨t', h1, h2⟩ := pto_map h
        obtain ⟨h3, rfl⟩ := Prod.mk.inj h2
        have kt : pCmp cd x y = true → W p l e R s m args below meth c H locs cells slots Q (F0 m t' ls (r.map (pSh G))) := fun hc => by rw [if_pos hc] at h3; rw [h3]; exact kk
        have kf : ¬ pCmp cd x y = true → W p l e R s m args below meth c H locs cells slots Q (F0 m (pc + 3) ls (r.map (pSh G))) := fun hc => by rw [if_neg hc] at h3; rw [h3]; exact kk
        rw [List.map_cons, List.map_cons, psh_int, psh_int]
        cases cd with
        | eq => exact lv_icmp_eq hx hb hd h1 (fun q => kt (decide_eq_true q)) (fun q => kf (fun z => q (of_decide_eq_true z)))
        | ne => exact lv_icmp_ne hx hb hd h1 (fun q => kt (decide_eq_true q)) (fun q => kf (fun z => (of_decide_eq_true z) q))
        | lt => exact lv_icmp_lt hx hb hd h1 (fun q => kt (decide_eq_true q)) (fun q => kf (fun z => q (of_decide_eq_true z)))
        | ge => exact lv_icmp_ge hx hb hd h1 (fun q => kt (decide_eq_true q)) (fun q => kf (fun z => q (of_decide_eq_true z)))
        | gt => exact lv_icmp_gt hx hb hd h1 (fun q => kt (decide_eq_true q)) (fun q => kf (fun z => q (of_decide_eq_true z)))
        | le => exact lv_icmp_le hx hb hd h1 (fun q => kt (decide_eq_true q)) (fun q => kf (fun z => q (of_decide_eq_true z)))
      · cases h
    · cases h
  · split at h
    · split at h
      · rename_i hc
        obtain ⟨t', h1, h2⟩ := pto_map h
        cases h2
        exact lv_tableOut hx hb hd hc h1 kk
      · rename_i hc
        split at h
        · rename_i o ho
          obtain ⟨t', h1, h2⟩ := pto_map h
          cases h2
          exact lv_tableIn hx hb hd (fun q => hc (Or.inl q)) (fun q => hc (Or.inr q)) ho h1 kk
        · cases h
    · cases h
  · split at h
    · split at h
      · rename_i hs
        obtain ⟨t', h1, h2⟩ := pto_map h
        cases h2
        exact lv_lookup hx hb hd hs rfl h1 kk
      · cases h
    · cases h
  · cases h
/-- what lies outside: the text of the language -/
theorem ps_xtr (hx : p.tables.exec = Jvm.exec) (hb : c.code = cc) {M : pMe} (hown : s.vm.findClass (pR M.1) = some m.cls) (hts : ∀ w ∈ pAll, w.before args s = true) (hK : pKk G s) {L0 L : pHp} (h0 : pH G L0 s.heap) (hH : pH G L H) (hn : L0.length ≤ L.length) (hlo : ∀ q ∈ locs, pB G ≤ q.base)
    {i : Instr} {a k : Nat} {st st' : List Value} (h : pXtr i a st = some (k, st')) (ha : pAux M.1 i a = true) (hd : decode cc pc = .ok (i, k))
    (kk : W p l e R s m args below meth c H locs cells slots Q (F0 m (pc + k) ls (st'.map (pSh G)))) : W p l e R s m args below meth c H locs cells slots Q (F0 m pc ls (st.map (pSh G))) := by
  have hS := ph_S h0 hH hn hlo
  have hq := ph_keep h0
  obtain ⟨h1, h2, h3, h4, h5, h6, h7, h8, h9, h10, h11, h12, h13⟩ := hK
  unfold pXtr at h
  split at h
  · rename_i x
    split at h
    · rename_i he
      subst he
      cases h
      have hc : (M.1 = 10 ∧ x = 19) ∨ (M.1 = 12 ∧ x = 187) := by
        have hz : (pKs[900]?).any (fun q => q.1 == M.1 && q.2.1 == x) = false := rfl
        simp only [pAux, hz, Bool.or_false, beq_self_eq_true, Bool.true_and, Bool.or_eq_true, Bool.and_eq_true, beq_iff_eq] at ha
        exact ha
      rcases hc with ⟨hc, rfl⟩ | ⟨hc, rfl⟩
      · rw [hc] at hown
        exact va_ldcS hx hb hown h6 hd kk
      · rw [hc] at hown
        exact va_ldcS hx hb hown h7 hd kk
    · cases h
  · rename_i x
    have hw : (M.1, x, a) ∈ pQs := by simpa [pAux] using ha
    split at h
    · rename_i he
      subst he
      cases h
      exact va_gets hx hb (h12.kept hq) hS hown (hts _ (pa_q hw)) (fun _ h => h) hd kk
    · split at h
      · rename_i he
        subst he
        cases h
        exact va_gets hx hb (h13.kept hq) hS hown (hts _ (pa_q hw)) (fun _ h => h) hd kk
      · cases h
  · rename_i x
    split at h
    · rename_i u r
      split at h
      · rename_i he
        obtain ⟨rfl, rfl⟩ := he
        cases h
        have hw : (M.1, x, 9000) ∈ pQs := by simpa [pAux] using ha
        exact vk_getf hx hb (h10.kept hq) hS hown (hts _ (pa_q hw)) (fun _ h => h) hd kk
      · split at h
        · rename_i he
          obtain ⟨rfl, rfl⟩ := he
          cases h
          have hw : (M.1, x, 9001) ∈ pQs := by simpa [pAux] using ha
          exact vk_getf hx hb (h9.kept hq) hS hown (hts _ (pa_q hw)) (fun _ h => h) hd kk
        · cases h
    · cases h
  · split at h
    · split at h
      · rename_i he
        subst he
        cases h
        exact va_tlen hx hb (h11.kept hq) hS rfl hd kk
      · cases h
    · cases h
  · split at h
    · rename_i x u r
      split at h
      · rename_i he
        subst he
        unfold pLd pIx at h
        by_cases hin : x < 0 ∨ pLang.length ≤ x.toNatClampNeg
        · rw [if_pos hin] at h
          cases h
        · rw [if_neg hin] at h
          simp only at h
          cases hv : pLang[x.toNatClampNeg]? with
          | none => rw [hv] at h; cases h
          | some v =>
            rw [hv] at h
            cases h
            have hi : pSh G v = v := by
              obtain ⟨z, rfl⟩ := pint_of (List.all_eq_true.mp pLang_ints v (List.mem_of_getElem? hv))
              rfl
            rw [List.map_cons, hi] at kk
            exact va_tb hx hb (h11.kept hq) hS hin (by rw [List.getD_eq_getElem?_getD, hv]; rfl) hd kk
      · cases h
    · cases h
  · cases h
end STP
end
section
/-! ONE INSTRUCTION of the small machine is one of the great one: the heap. -/
theorem arrV_cg {cA : ClassId} {N : Nat} {f g : Nat → Value} (h : ∀ j, j < N → f j = g j) : arrV cA N f = arrV cA N g := by
  unfold arrV
  rw [show (fun j : Fin N => f j.val) = fun j => g j.val from funext fun j => h j.1 j.2]
theorem par_set {G : pG} {cA : ClassId} {es : List Value} {j : Nat} (hj : j < es.length) (v : Value) : (arrV cA es.length (fun i => pSh G (es.getD i .null))).setSlot j (pSh G v) = arrV cA (es.set j v).length (fun i => pSh G ((es.set j v).getD i .null)) := by
  rw [arrV_store, List.length_set]
  refine arrV_cg (fun i hi => ?_)
  by_cases hij : i = j
  · subst hij
    simp [updV, List.getD_eq_getElem?_getD, hj]
  · simp [updV, hij, List.getD_eq_getElem?_getD, Ne.symm hij]
theorem pIx_of {x : Int32} {n j : Nat} (h : pIx x n = some j) : ¬ (x < 0 ∨ n ≤ x.toNatClampNeg) ∧ j = x.toNatClampNeg ∧ j < n := by
  unfold pIx at h
  split at h
  · cases h
  · rename_i hc
    cases h
    exact ⟨hc, rfl, Nat.not_le.mp fun q => hc (Or.inr q)⟩
theorem omap {α β : Type} {o : Option α} {f : α → β} {r : β} (h : o.map f = some r) : ∃ x, o = some x ∧ f x = r := by
  cases o with
  | none => cases h
  | some x => exact ⟨x, rfl, Option.some.inj h⟩
theorem pLd_of {es : List Value} {x : Int32} {v : Value} (h : pLd es x = some v) : ¬ (x < 0 ∨ es.length ≤ x.toNatClampNeg) ∧ x.toNatClampNeg < es.length ∧ es.getD x.toNatClampNeg .null = v := by
  unfold pLd at h
  split at h
  · rename_i j hj
    obtain ⟨h1, rfl, h3⟩ := pIx_of hj
    exact ⟨h1, h3, by rw [List.getD_eq_getElem?_getD, h]; rfl⟩
  · cases h
def pToI (v : Value) : Int32 := match v with
  | .int x => x
  | _ => 0
theorem par_ints {G : pG} {cA : ClassId} {es : List Value} (h : es.all (pInt false) = true) : arrV cA es.length (fun j => pSh G (es.getD j .null)) = vp_cell cA (es.length, .inl (fun j => pToI (es.getD j .null))) := by
  rw [vp_cell_i]
  refine arrV_cg (fun j hj => ?_)
  have hm : es[j]? = some es[j] := List.getElem?_eq_getElem hj
  obtain ⟨x, hx⟩ := pint_of (List.all_eq_true.mp h _ (List.mem_of_getElem? hm))
  rw [List.getD_eq_getElem?_getD, hm]
  simp only [Option.getD_some, hx]
  rfl
theorem pAt.arr {G : pG} {a : Nat} {o : pOb} {H : Heap} (h : pAt G a o H) (ht : 20 ≤ o.1) : H[a]? = some (arrV (G.2.2.1 o.1) o.2.length (fun j => pSh G (o.2.getD j .null))) := by
  rcases h with ⟨h1, -⟩ | ⟨-, -, h3⟩ | h1
  · omega
  · exact h3
  · omega
theorem pAt.obj {G : pG} {a : Nat} {o : pOb} {H : Heap} (h : pAt G a o H) (ht : o.1 < 13) : o.2.length = pN o.1 ∧ t_OB a (G.1 o.1) (pN o.1) (G.2.1 o.1) H (vp_V (o.2.map (pSh G))) := by
  rcases h with ⟨-, h2⟩ | ⟨h1, -⟩ | h1
  · exact h2
  · omega
  · omega
theorem pfit_of {G : pG} {c : Nat} {ini : Bool} {ci k : Nat} {v : Value} (h : pFit false c ini ci k v = true) : k < pN ci ∧ fits (pTy ci k) (pSh G v) = true ∧ narrow (pTy ci k) (pSh G v) = pSh G v ∧ ((pT ci k).2.2.2 = false ∨ (ini = true ∧ (pT ci k).1 = pR c)) := by
  simp only [pFit, Bool.and_eq_true, Bool.or_eq_true, Bool.false_and, Bool.false_eq_true, false_or, decide_eq_true_eq, Bool.not_eq_true'] at h
  obtain ⟨⟨h1, ⟨h2, h3⟩, h4⟩, h5⟩ := h
  refine ⟨h1, ?_, ?_, h5⟩
  · cases v with
    | float u => cases h2
    | ref a => cases hty : pTy ci k <;> rw [hty] at h3 <;> first | rfl | cases h3
    | _ => exact h3
  · cases v with
    | float u => cases h2
    | ref a => cases pTy ci k <;> rfl
    | _ => exact h4
theorem pDef_sh (G : pG) : ∀ ci, ci < 13 → (pDef ci).map (pSh G) = pDef ci := by
  intro ci h
  match ci, h with
  | 0, _ => rfl
  | 1, _ => rfl
  | 2, _ => rfl
  | 3, _ => rfl
  | 4, _ => rfl
  | 5, _ => rfl
  | 6, _ => rfl
  | 7, _ => rfl
  | 8, _ => rfl
  | 9, _ => rfl
  | 10, _ => rfl
  | 11, _ => rfl
  | 12, _ => rfl
  | n + 13, h => exact absurd h (by omega)
theorem pDef_at (G : pG) {ci j : Nat} (h : ci < 13) (hj : j < pN ci) : defaultValue (pTy ci j) = vp_V ((pDef ci).map (pSh G)) j := by
  rw [pDef_sh G ci h, vp_V, pDef, List.getD_eq_getElem?_getD, List.getElem?_map, List.getElem?_range hj]
  rfl
theorem pDef_len (ci : Nat) : (pDef ci).length = pN ci := by rw [pDef, List.length_map, List.length_range]
theorem pIz_all : ∀ a, a < 13 → a ∈ pIz := by decide +kernel
theorem pZz_all : ∀ a, a < 17 → a ∈ pZz := by decide +kernel
theorem pXx_all : .int ∈ pXx ∧ .byte ∈ pXx ∧ .boolean ∈ pXx ∧ .long ∈ pXx := by decide +kernel
section MEM
variable {p : Program} {l : Launch} {e : Env} {R : Room} {s : State} {m : MethodId} {args : Array Value} {below : List Frame} {meth : Method} {c : Code} {H : Heap} {locs : List Loc} {cells slots : Nat} {Q : State → Prop}
variable {cc : ByteArray} {pc : Nat} {ls : Array Slot} {G : pG}
theorem ps_getf (hx : p.tables.exec = Jvm.exec) (hb : c.code = cc) {M : pMe} (hown : s.vm.findClass (pR M.1) = some m.cls) (hts : ∀ w ∈ pAll, w.before args s = true) (hK : pKk G s) {L : pHp} (hH : pH G L H) {x a o : Nat} {q : pOb} {v : Value} {r : List Value} (ha : (M.1, x, a) ∈ pFs) (hq : L[o]? = some q) (h1 : q.1 = a / 100) (h2 : q.1 < 13) (h3 : a % 100 < pN q.1) (hv : q.2[a % 100]? = some v) (hd : decode cc pc = .ok (.getfield x, 3))
    (kk : W p l e R s m args below meth c H locs cells slots Q (F0 m (pc + 3) ls (pSh G v :: r))) : W p l e R s m args below meth c H locs cells slots Q (F0 m pc ls (.ref (pB G + o) :: r)) := by
  have hO := ((hH.2.2 o q hq).obj h2).2
  have hP : va_P (G.1, G.2.1) vwCl [(pB G + o, .inr (q.1, q.2.map (pSh G)))] H := by
    intro k z hz
    cases k with
    | zero => cases hz; exact ⟨_, pCl_at q.1 h2, hO⟩
    | succ k => cases hz
  have hw := hts _ (pa_f ha)
  unfold pWf at hw
  rw [← h1] at hw
  exact va_get hx hb hts (pLay_in h2) hown hK.1 hP 0 rfl (pCl_at q.1 h2) (a % 100) h3 hw (fun _ h => h) (by rw [List.getElem?_map, hv]; rfl) hd kk
theorem ps_putf (hx : p.tables.exec = Jvm.exec) (hb : c.code = cc) {M : pMe} (hown : s.vm.findClass (pR M.1) = some m.cls) (hini : M.2.1.name = "<init>" → meth.name = "<init>") (hts : ∀ w ∈ pAll, w.before args s = true) (hK : pKk G s) {L : pHp} (hH : pH G L H) (hlo : ∀ q ∈ locs, pB G ≤ q.base) {x a o : Nat} {q : pOb} {v : Value} {r : List Value} (ha : (M.1, x, a) ∈ pFs) (hq : L[o]? = some q) (h1 : q.1 = a / 100) (h2 : q.1 < 13) (h3 : a % 100 < q.2.length) (hf : pFit false M.1 (M.2.1.name == "<init>") q.1 (a % 100) v = true) (hd : decode cc pc = .ok (.putfield x, 3))
    (kk : ∀ H' locs', pH G (L.set o (q.1, q.2.set (a % 100) v)) H' → (∀ q ∈ locs', pB G ≤ q.base) → W p l e R s m args below meth c H' locs' cells slots Q (F0 m (pc + 3) ls r)) : W p l e R s m args below meth c H locs cells slots Q (F0 m pc ls (pSh G v :: .ref (pB G + o) :: r)) := by
  obtain ⟨hlen, cell, q1, q2, q3, q4⟩ := (hH.2.2 o q hq).obj h2
  obtain ⟨f1, f2, f3, f4⟩ := pfit_of (G := G) hf
  have hw := hts _ (pa_f ha)
  unfold pWf at hw
  rw [← h1] at hw
  have hc := pCl_at q.1 h2
  have hap := va_apart (own := pR M.1) hts (pLay_in h2) (pTy q.1) (pTy_ok q.1 h2) (pNm_ok q.1 h2) hK.1 hc
  obtain ⟨hS, hfc, kC, hkC, hkind⟩ := hK.1.1 q.1 _ hc
  obtain ⟨cf, kf, fi, f, hi, hsl⟩ := hS (a % 100) f1
  have hlay := hts _ (pLay_in h2 _ (u_in_lay f1))
  have hst := (u_facts hfc hkC (u_lays hts (pLay_in h2) f1) hi).1
  have key : ∀ H' : Heap, H'[pB G + o]? = some (cell.setSlot f.slot (pSh G v)) → H'.size = H.size → (∀ z, z ≠ pB G + o → H'[z]? = H[z]?) → W p l e R s m args below meth c H' (locs ++ [⟨pB G + o, f.slot⟩]) cells slots Q (F0 m (pc + 3) ls r) := by
    intro H' e1 e2 e3
    rw [hsl] at e1 ⊢
    refine kk H' _ (ph_set hH hq (Or.inl ⟨h2, by rw [List.length_set]; exact hlen, ?_⟩) e2 e3) ?_
    · have ht : t_OB (pB G + o) (G.1 q.1) (pN q.1) (G.2.1 q.1) H' (updV (vp_V (q.2.map (pSh G))) (a % 100) (pSh G v)) := ⟨_, e1, q2, q3, t_set q4 hap f1 _⟩
      refine ht.to (fun j _ => ?_)
      rw [vp_updV_set (by rw [List.length_map]; exact h3), List.map_set]
    · intro z hz
      rcases List.mem_append.mp hz with hz | hz
      · exact hlo z hz
      · rw [List.mem_singleton.mp hz]
        exact Nat.le_add_right _ _
  unfold u_lay at hlay
  by_cases hfin : (pT q.1 (a % 100)).2.2.2 = true
  · rw [if_pos hfin] at hlay
    obtain ⟨g1, g2⟩ : (M.2.1.name == "<init>") = true ∧ (pT q.1 (a % 100)).1 = pR M.1 := by
      rcases f4 with z | z
      · rw [hfin] at z; cases z
      · exact z
    have hcf : m.cls = cf := by
      obtain ⟨_, _, c', _, _, _, -, -, hf', -, -, -, hown2, -⟩ := Cond.laysFinal_spec hlay
      have e1 : c' = cf := by have := hi.symm.trans hf'; simp at this; exact this.1.symm
      rw [g2] at hown2
      rw [← e1]; exact Option.some.inj (hown.symm.trans hown2)
    have h6 := u_fits hfc hkC hkind (Or.inr hlay) hi (pTy_ok q.1 h2 _ f1) f3 f2
    exact W.putFinK hx hb hown hw hi hst hcf (hini (by simpa using g1)) (by rw [q2]; exact h6) q1 q3 (by rw [hsl]; exact k2_hasslot (q4 _ f1)) rfl rfl hd key
  · rw [if_neg hfin] at hlay
    have h6 := u_store hfc hkC hkind hlay hi (pTy_ok q.1 h2 _ f1) f3 f2
    exact W.putK hx hb (f := f) ⟨hown, hw, ⟨_, _, _, hi⟩, hst⟩ (by rw [q2]; exact h6) q1 q3 (by rw [hsl]; exact k2_hasslot (q4 _ f1)) rfl rfl hd key
theorem ps_new (hx : p.tables.exec = Jvm.exec) (hb : c.code = cc) {M : pMe} (hown : s.vm.findClass (pR M.1) = some m.cls) (hts : ∀ w ∈ pAll, w.before args s = true) (hK : pKk G s) {L : pHp} (hH : pH G L H) {x a : Nat} {st : List Value} (ha : (M.1, x, a) ∈ pNs) (h2 : a < 13) (hc : cells + 1 ≤ R.cells) (hs : slots + pN a ≤ R.slots) (hd : decode cc pc = .ok (.new x, 3))
    (kk : ∀ H', pH G (L ++ [(a, pDef a)]) H' → W p l e R s m args below meth c H' locs (cells + 1) (slots + pN a) Q (F0 m (pc + 3) ls (.ref (pB G + L.length) :: st))) : W p l e R s m args below meth c H locs cells slots Q (F0 m pc ls st) := by
  have hKn := hK.1.1 a _ (pCl_at a h2)
  refine W.newcK hx hb hown (hts _ (pa_n ha)) (hts _ (pa_i (pIz_all a h2))) (hts _ (pa_z (pZz_all a (by omega)))) rfl hd hc hs hKn.2.1 hH.2.1 fun H1 kC hkC e1 z1 o1 => ?_
  refine kk H1 (ph_push hH (Or.inl ⟨h2, pDef_len a, ?_⟩) (by rw [z1, hH.2.1]) (fun z hz => o1 z (by rw [← hH.2.1]; exact hz)))
  exact (u_born (pTy a) hts (pLay_in h2) hKn hkC e1 (pTy_ok a h2)).to (fun j hj => pDef_at G h2 hj)
theorem pty_at (hK : pKk G s) {t : Nat} (h1 : 20 ≤ t) (h2 : t ≤ 25) : ArrOfT s (G.2.2.1 t) (pAty t) ∧ va_RA s (G.2.2.1 t) (pAty t) := by
  match t, h1, h2 with
  | 20, _, _ => exact hK.1.2 0 _ rfl
  | 21, _, _ => exact hK.1.2 1 _ rfl
  | 22, _, _ => exact hK.1.2 2 _ rfl
  | 23, _, _ => exact hK.1.2 3 _ rfl
  | 24, _, _ => exact hK.1.2 4 _ rfl
  | 25, _, _ => exact hK.1.2 5 _ rfl
  | n + 26, _, h => exact absurd h (by omega)
theorem ps_newa (hx : p.tables.exec = Jvm.exec) (hb : c.code = cc) (hts : ∀ w ∈ pAll, w.before args s = true) (hK : pKk G s) {L : pHp} (hH : pH G L H) {t : ArrayType} {g : Nat} {n : Int32} {r : List Value} (ht : pTag t = some g) (hn : ¬ (n < 0 ∨ 4096 < n.toNatClampNeg)) (hc : cells + 1 ≤ R.cells) (hs : slots + n.toNatClampNeg ≤ R.slots) (hd : decode cc pc = .ok (.newarray t, 2))
    (kk : ∀ H', pH G (L ++ [(g, List.replicate n.toNatClampNeg (defaultValue (pAty g)))]) H' → W p l e R s m args below meth c H' locs (cells + 1) (slots + n.toNatClampNeg) Q (F0 m (pc + 2) ls (.ref (pB G + L.length) :: r))) : W p l e R s m args below meth c H locs cells slots Q (F0 m pc ls (.int n :: r)) := by
  have hg : newarray.typeOf t = pAty g ∧ 20 ≤ g ∧ g ≤ 25 ∧ pAty g ∈ pXx ∧ pSh G (defaultValue (pAty g)) = defaultValue (pAty g) ∧ componentBytes (pAty g) ≤ 8 ∧ (va_RA s (G.2.2.1 g) (pAty g) → s.vm.findClass ("[" ++ (pAty g).toString) = some (G.2.2.1 g)) := by
    cases t with
    | int => cases ht; exact ⟨rfl, by decide, by decide, pXx_all.1, rfl, by decide, fun h => h⟩
    | byte => cases ht; exact ⟨rfl, by decide, by decide, pXx_all.2.1, rfl, by decide, fun h => h⟩
    | boolean => cases ht; exact ⟨rfl, by decide, by decide, pXx_all.2.2.1, rfl, by decide, fun h => h⟩
    | long => cases ht; exact ⟨rfl, by decide, by decide, pXx_all.2.2.2, rfl, by decide, fun h => h⟩
    | _ => cases ht
  obtain ⟨g1, g2, g3, g4, g5, g6, g7⟩ := hg
  obtain ⟨k1, k2⟩ := pty_at hK g2 g3
  have hle : n.toNatClampNeg ≤ 4096 := Nat.not_lt.mp fun z => hn (Or.inr z)
  have hbytes : n.toNatClampNeg * componentBytes (newarray.typeOf t) ≤ 536870912 := by
    rw [g1]
    exact Nat.le_trans (Nat.mul_le_mul hle g6) (by decide)
  refine va_newaK hx hb (by rw [g1]; exact hts _ (pa_x g4)) rfl hd rfl (fun z => hn (Or.inl z)) rfl hbytes hc hs hH.2.1 fun H1 cA e1 z1 o1 hAr hNm => ?_
  rw [g1] at e1 hNm
  have hcA : cA = G.2.2.1 g := Option.some.inj (hNm.symm.trans (g7 k2))
  subst hcA
  refine kk H1 (ph_push hH (Or.inr (Or.inl ⟨g2, g3, ?_⟩)) (by rw [z1, hH.2.1]) (fun z hz => o1 z (by rw [← hH.2.1]; exact hz)))
  rw [e1]
  simp only [List.length_replicate]
  congr 1
  refine arrV_cg (fun j hj => ?_)
  rw [List.getD_eq_getElem?_getD, List.getElem?_replicate, if_pos hj]
  exact g5.symm
theorem ps_anew (hx : p.tables.exec = Jvm.exec) (hb : c.code = cc) {M : pMe} (hown : s.vm.findClass (pR M.1) = some m.cls) (hts : ∀ w ∈ pAll, w.before args s = true) (hK : pKk G s) {L : pHp} (hH : pH G L H) {x a : Nat} {n : Int32} {r : List Value} (ha : (M.1, x, a) ∈ pAn) (h2 : a = 24 ∨ a = 25) (hn : ¬ (n < 0 ∨ 4096 < n.toNatClampNeg)) (hc : cells + 1 ≤ R.cells) (hs : slots + n.toNatClampNeg ≤ R.slots) (hd : decode cc pc = .ok (.anewarray x, 3))
    (kk : ∀ H', pH G (L ++ [(a, List.replicate n.toNatClampNeg .null)]) H' → W p l e R s m args below meth c H' locs (cells + 1) (slots + n.toNatClampNeg) Q (F0 m (pc + 3) ls (.ref (pB G + L.length) :: r))) : W p l e R s m args below meth c H locs cells slots Q (F0 m pc ls (.int n :: r)) := by
  have hle : n.toNatClampNeg ≤ 4096 := Nat.not_lt.mp fun z => hn (Or.inr z)
  have hw := hts _ (pa_a ha)
  obtain ⟨C, hC, hov, h20, h25, hty⟩ : ∃ C : String, (if a = 24 then RX1 else RX4) = C ∧ va_AO C s ∧ 20 ≤ a ∧ a ≤ 25 ∧ pAty a = .object C := by
    rcases h2 with rfl | rfl
    · exact ⟨_, rfl, hK.2.2.1, by decide, by decide, rfl⟩
    · exact ⟨_, rfl, hK.2.2.2.1, by decide, by decide, rfl⟩
  unfold pWa at hw
  rw [hC] at hw
  obtain ⟨k1, k2⟩ := pty_at hK h20 h25
  rw [hty] at k1 k2
  obtain ⟨kA', comp', g1, g2, g3, g4⟩ := k2
  refine W.anew hx hb hown hw (va_AO.use hov) rfl hd rfl (fun z => hn (Or.inl z)) (by omega) hc hs fun cA kA comp f1 f2 f3 f4 => ?_
  have hcA : cA = G.2.2.1 a := Option.some.inj (f1.symm.trans g4)
  subst hcA
  rw [hH.2.1]
  refine kk _ (ph_push hH (Or.inr (Or.inl ⟨h20, h25, ?_⟩)) (by rw [Array.size_push]) (fun z hz => by rw [Array.getElem?_push, if_neg (Nat.ne_of_lt hz)]))
  rw [← hH.2.1, Array.getElem?_push_size, arrV_new]
  simp only [List.length_replicate]
  congr 1
  refine arrV_cg (fun j hj => ?_)
  rw [List.getD_eq_getElem?_getD, List.getElem?_replicate, if_pos hj]
  rfl
end MEM
end
section
/-! THE HEAP, second part: arrays, constants, copies; then all instructions together. -/
section MEM2
variable {p : Program} {l : Launch} {e : Env} {R : Room} {s : State} {m : MethodId} {args : Array Value} {below : List Frame} {meth : Method} {c : Code} {H : Heap} {locs : List Loc} {cells slots : Nat} {Q : State → Prop}
variable {cc : ByteArray} {pc : Nat} {ls : Array Slot} {G : pG}
theorem pin_of {cA : ClassId} {n : Nat} {f : Nat → Value} {x : Int32} (h : ¬ (x < 0 ∨ n ≤ x.toNatClampNeg)) : ¬ (x < 0 ∨ (arrV cA n f).slots.size ≤ x.toNatClampNeg) := by rw [arrV_size]; exact h
theorem psl_of {cA : ClassId} {es : List Value} {j : Nat} {v : Value} (hj : j < es.length) (hv : es.getD j .null = v) : (arrV cA es.length (fun j => pSh G (es.getD j .null))).slots[j]? = some (pSh G v) := by rw [arrV_read _ _ hj, hv]
theorem ps_iald (hx : p.tables.exec = Jvm.exec) (hb : c.code = cc) (hK : pKk G s) {L : pHp} (hH : pH G L H) {x : Int32} {o : Nat} {q : pOb} {v : Value} {r : List Value} (hq : L[o]? = some q) (ht : q.1 = 20) (hv : pLd q.2 x = some v) (hd : decode cc pc = .ok (.iaload, 1))
    (kk : W p l e R s m args below meth c H locs cells slots Q (F0 m (pc + 1) ls (pSh G v :: r))) : W p l e R s m args below meth c H locs cells slots Q (F0 m pc ls (.int x :: .ref (pB G + o) :: r)) := by
  obtain ⟨h1, h2, h3⟩ := pLd_of hv
  have hc := (hH.2.2 o q hq).arr (by omega)
  rw [ht] at hc
  exact W.iald hx hb hc ((pty_at hK (t := 20) (by decide) (by decide)).1 _ _) (fun z => by cases z) (pin_of h1) (psl_of h2 h3) rfl rfl hd kk
theorem ps_bald (hx : p.tables.exec = Jvm.exec) (hb : c.code = cc) (hK : pKk G s) {L : pHp} (hH : pH G L H) {x : Int32} {o : Nat} {q : pOb} {v : Value} {r : List Value} (hq : L[o]? = some q) (ht : q.1 = 21 ∨ q.1 = 22) (hv : pLd q.2 x = some v) (hd : decode cc pc = .ok (.baload, 1))
    (kk : W p l e R s m args below meth c H locs cells slots Q (F0 m (pc + 1) ls (pSh G v :: r))) : W p l e R s m args below meth c H locs cells slots Q (F0 m pc ls (.int x :: .ref (pB G + o) :: r)) := by
  obtain ⟨h1, h2, h3⟩ := pLd_of hv
  have hc := (hH.2.2 o q hq).arr (by omega)
  rcases ht with ht | ht
  · rw [ht] at hc
    exact W.bald hx hb hc ((pty_at hK (t := 21) (by decide) (by decide)).1 _ _) (fun z => by cases z) (pin_of h1) (psl_of h2 h3) rfl rfl hd kk
  · rw [ht] at hc
    exact W.zald hx hb hc ((pty_at hK (t := 22) (by decide) (by decide)).1 _ _) (fun z => by cases z) (pin_of h1) (psl_of h2 h3) rfl rfl hd kk
theorem ps_lald (hx : p.tables.exec = Jvm.exec) (hb : c.code = cc) (hK : pKk G s) {L : pHp} (hH : pH G L H) {x : Int32} {o : Nat} {q : pOb} {v : Value} {r : List Value} (hq : L[o]? = some q) (ht : q.1 = 23) (hv : pLd q.2 x = some v) (hd : decode cc pc = .ok (.laload, 1))
    (kk : W p l e R s m args below meth c H locs cells slots Q (F0 m (pc + 1) ls (pSh G v :: r))) : W p l e R s m args below meth c H locs cells slots Q (F0 m pc ls (.int x :: .ref (pB G + o) :: r)) := by
  obtain ⟨h1, h2, h3⟩ := pLd_of hv
  have hc := (hH.2.2 o q hq).arr (by omega)
  rw [ht] at hc
  exact W.lald hx hb hc ((pty_at hK (t := 23) (by decide) (by decide)).1 _ _) (fun z => by cases z) (pin_of h1) (psl_of h2 h3) rfl rfl hd kk
theorem ps_aald (hx : p.tables.exec = Jvm.exec) (hb : c.code = cc) (hK : pKk G s) {L : pHp} (hH : pH G L H) {x : Int32} {o : Nat} {q : pOb} {v : Value} {r : List Value} (hq : L[o]? = some q) (ht : q.1 = 24 ∨ q.1 = 25) (hv : pLd q.2 x = some v) (hd : decode cc pc = .ok (.aaload, 1))
    (kk : W p l e R s m args below meth c H locs cells slots Q (F0 m (pc + 1) ls (pSh G v :: r))) : W p l e R s m args below meth c H locs cells slots Q (F0 m pc ls (.int x :: .ref (pB G + o) :: r)) := by
  obtain ⟨h1, h2, h3⟩ := pLd_of hv
  have hc := (hH.2.2 o q hq).arr (by omega)
  rcases ht with ht | ht
  · rw [ht] at hc
    exact W.aald (ty := pAty 24) hx hb hc ((pty_at hK (t := 24) (by decide) (by decide)).1 _ _) rfl (fun z => by cases z) (pin_of h1) (psl_of h2 h3) rfl rfl hd kk
  · rw [ht] at hc
    exact W.aald (ty := pAty 25) hx hb hc ((pty_at hK (t := 25) (by decide) (by decide)).1 _ _) rfl (fun z => by cases z) (pin_of h1) (psl_of h2 h3) rfl rfl hd kk
/-- a store into an array: the new heap -/
theorem ph_ast {L : pHp} {H H1 : Heap} (hH : pH G L H) {o j : Nat} {q : pOb} {v : Value} (hq : L[o]? = some q) (h20 : 20 ≤ q.1) (h25 : q.1 ≤ 25) (hj : j < q.2.length) (he : H1[pB G + o]? = some ((arrV (G.2.2.1 q.1) q.2.length (fun j => pSh G (q.2.getD j .null))).setSlot j (pSh G v))) (hz : H1.size = H.size) (ho : ∀ z, z ≠ pB G + o → H1[z]? = H[z]?) : pH G (L.set o (q.1, q.2.set j v)) H1 :=
  ph_set hH hq (Or.inr (Or.inl ⟨h20, h25, by rw [he, par_set hj]⟩)) hz ho
theorem plo_app (hlo : ∀ q ∈ locs, pB G ≤ q.base) {o k : Nat} : ∀ q ∈ locs ++ [⟨pB G + o, k⟩], pB G ≤ q.base := by
  intro z hz
  rcases List.mem_append.mp hz with hz | hz
  · exact hlo z hz
  · rw [List.mem_singleton.mp hz]
    exact Nat.le_add_right _ _
theorem ps_iast (hx : p.tables.exec = Jvm.exec) (hb : c.code = cc) (hK : pKk G s) {L : pHp} (hH : pH G L H) (hlo : ∀ q ∈ locs, pB G ≤ q.base) {x y : Int32} {o j : Nat} {q : pOb} {r : List Value} (hq : L[o]? = some q) (ht : q.1 = 20) (hj : pIx x q.2.length = some j) (hd : decode cc pc = .ok (.iastore, 1))
    (kk : ∀ H' locs', pH G (L.set o (q.1, q.2.set j (.int y))) H' → (∀ q ∈ locs', pB G ≤ q.base) → W p l e R s m args below meth c H' locs' cells slots Q (F0 m (pc + 1) ls r)) : W p l e R s m args below meth c H locs cells slots Q (F0 m pc ls (.int y :: .int x :: .ref (pB G + o) :: r)) := by
  obtain ⟨h1, rfl, h3⟩ := pIx_of hj
  have hc := (hH.2.2 o q hq).arr (by omega)
  have ha : s.isArrayOf (arrV (G.2.2.1 q.1) q.2.length (fun j => pSh G (q.2.getD j .null))) .int := by rw [ht]; exact (pty_at hK (t := 20) (by decide) (by decide)).1 q.2.length _
  exact W.iast hx hb hc ha (fun z => by cases z) (pin_of h1) rfl rfl hd (fun H1 e1 z oq => kk H1 _ (ph_ast hH hq (by omega) (by omega) h3 e1 z oq) (plo_app hlo))
theorem ps_bast (hx : p.tables.exec = Jvm.exec) (hb : c.code = cc) (hK : pKk G s) {L : pHp} (hH : pH G L H) (hlo : ∀ q ∈ locs, pB G ≤ q.base) {x y : Int32} {o j : Nat} {q : pOb} {r : List Value} (hq : L[o]? = some q) (ht : q.1 = 21 ∨ q.1 = 22) (hj : pIx x q.2.length = some j) (hd : decode cc pc = .ok (.bastore, 1))
    (kk : ∀ H' locs', pH G (L.set o (q.1, q.2.set j (narrow (pAty q.1) (.int y)))) H' → (∀ q ∈ locs', pB G ≤ q.base) → W p l e R s m args below meth c H' locs' cells slots Q (F0 m (pc + 1) ls r)) : W p l e R s m args below meth c H locs cells slots Q (F0 m pc ls (.int y :: .int x :: .ref (pB G + o) :: r)) := by
  obtain ⟨h1, rfl, h3⟩ := pIx_of hj
  have hc := (hH.2.2 o q hq).arr (by omega)
  rcases ht with ht | ht
  · have ha := (pty_at hK (t := 21) (by decide) (by decide)).1 q.2.length (fun j => pSh G (q.2.getD j .null))
    rw [ht] at hc kk
    exact W.bast hx hb hc ha (fun z => by cases z) (pin_of h1) rfl rfl hd (fun H1 e1 z oq => kk H1 _ (by have h9 := ph_ast (v := narrow (pAty 21) (.int y)) hH hq (by omega) (by omega) h3 (by rw [ht]; exact e1) z oq; rw [ht] at h9; exact h9) (plo_app hlo))
  · have ha := (pty_at hK (t := 22) (by decide) (by decide)).1 q.2.length (fun j => pSh G (q.2.getD j .null))
    rw [ht] at hc kk
    exact W.zast hx hb hc ha (fun z => by cases z) (pin_of h1) rfl rfl hd (fun H1 e1 z oq => kk H1 _ (by have h9 := ph_ast (v := narrow (pAty 22) (.int y)) hH hq (by omega) (by omega) h3 (by rw [ht]; exact e1) z oq; rw [ht] at h9; exact h9) (plo_app hlo))
theorem ps_last (hx : p.tables.exec = Jvm.exec) (hb : c.code = cc) (hK : pKk G s) {L : pHp} (hH : pH G L H) (hlo : ∀ q ∈ locs, pB G ≤ q.base) {x : Int32} {y : Int64} {o j : Nat} {q : pOb} {r : List Value} (hq : L[o]? = some q) (ht : q.1 = 23) (hj : pIx x q.2.length = some j) (hd : decode cc pc = .ok (.lastore, 1))
    (kk : ∀ H' locs', pH G (L.set o (q.1, q.2.set j (.long y))) H' → (∀ q ∈ locs', pB G ≤ q.base) → W p l e R s m args below meth c H' locs' cells slots Q (F0 m (pc + 1) ls r)) : W p l e R s m args below meth c H locs cells slots Q (F0 m pc ls (.long y :: .int x :: .ref (pB G + o) :: r)) := by
  obtain ⟨h1, rfl, h3⟩ := pIx_of hj
  have hc := (hH.2.2 o q hq).arr (by omega)
  have ha : s.isArrayOf (arrV (G.2.2.1 q.1) q.2.length (fun j => pSh G (q.2.getD j .null))) .long := by rw [ht]; exact (pty_at hK (t := 23) (by decide) (by decide)).1 q.2.length _
  exact W.last hx hb hc ha (fun z => by cases z) (pin_of h1) rfl rfl hd (fun H1 e1 z oq => kk H1 _ (ph_ast hH hq (by omega) (by omega) h3 e1 z oq) (plo_app hlo))
theorem ps_aast (hx : p.tables.exec = Jvm.exec) (hb : c.code = cc) (hK : pKk G s) {L : pHp} (hH : pH G L H) (hlo : ∀ q ∈ locs, pB G ≤ q.base) {x : Int32} {o v j : Nat} {q w : pOb} {r : List Value} (hq : L[o]? = some q) (hw : L[v]? = some w) (ht : (q.1 = 24 ∧ w.1 = 1) ∨ (q.1 = 25 ∧ w.1 = 4)) (hj : pIx x q.2.length = some j) (hd : decode cc pc = .ok (.aastore, 1))
    (kk : ∀ H' locs', pH G (L.set o (q.1, q.2.set j (.ref v))) H' → (∀ q ∈ locs', pB G ≤ q.base) → W p l e R s m args below meth c H' locs' cells slots Q (F0 m (pc + 1) ls r)) : W p l e R s m args below meth c H locs cells slots Q (F0 m pc ls (.ref (pB G + v) :: .int x :: .ref (pB G + o) :: r)) := by
  obtain ⟨h1, rfl, h3⟩ := pIx_of hj
  have hc := (hH.2.2 o q hq).arr (by omega)
  have hw13 : w.1 < 13 := by omega
  obtain ⟨-, cellV, g1, g2, g3, -⟩ := (hH.2.2 v w hw).obj hw13
  have hcls := (hK.1.1 w.1 _ (pCl_at w.1 hw13)).2
  have hra : va_RA s (G.2.2.1 q.1) (.object (pR w.1)) := by
    rcases ht with ⟨a, b⟩ | ⟨a, b⟩
    · rw [a, b]; exact (pty_at hK (t := 24) (by decide) (by decide)).2
    · rw [a, b]; exact (pty_at hK (t := 25) (by decide) (by decide)).2
  obtain ⟨kA, comp, k1, k2, k3, -⟩ := hra
  have hcomp : comp = G.1 w.1 := Option.some.inj (k3.symm.trans hcls.1)
  subst hcomp
  obtain ⟨kC, hkC, -⟩ := hcls.2
  exact W.aast hx hb hc (fun z h => by cases h) (fun h => by cases h) k1 k2 rfl hkC ⟨fun z => h1 (Or.inl z), by rw [arrV_size]; exact h3⟩ g1 (fun z h => by rw [g3] at h; cases h) (by rw [g2]; exact hkC) (by rw [g2]; exact va_assign hcls) rfl rfl hd
    (fun H1 e1 z oq => kk H1 _ (ph_ast (v := .ref v) hH hq (by omega) (by omega) h3 e1 z oq) (plo_app hlo))
theorem ps_alen (hx : p.tables.exec = Jvm.exec) (hb : c.code = cc) (hK : pKk G s) {L : pHp} (hH : pH G L H) {o : Nat} {q : pOb} {r : List Value} (hq : L[o]? = some q) (h20 : 20 ≤ q.1) (h25 : q.1 ≤ 25) (hd : decode cc pc = .ok (.arraylength, 1))
    (kk : W p l e R s m args below meth c H locs cells slots Q (F0 m (pc + 1) ls (.int (Int32.ofNat q.2.length) :: r))) : W p l e R s m args below meth c H locs cells slots Q (F0 m pc ls (.ref (pB G + o) :: r)) := by
  have hc := (hH.2.2 o q hq).arr h20
  exact W.alen hx hb hc ((pty_at hK h20 h25).1 _ _) (by rw [arrV_size]) rfl rfl hd kk
theorem pcp_at {α : Type} {es ds : List α} {sp dp n j : Nat} (h1 : sp + n ≤ es.length) (h2 : dp + n ≤ ds.length) : (ds.take dp ++ ((es.drop sp).take n ++ ds.drop (dp + n)))[j]? = if dp ≤ j ∧ j < dp + n then es[sp + (j - dp)]? else ds[j]? := by
  have l1 : (ds.take dp).length = dp := by rw [List.length_take]; omega
  have l2 : ((es.drop sp).take n).length = n := by rw [List.length_take, List.length_drop]; omega
  by_cases a : j < dp
  · rw [if_neg (by omega), List.getElem?_append_left (by omega), List.getElem?_take, if_pos a]
  · rw [List.getElem?_append_right (by omega), l1]
    by_cases b : j < dp + n
    · rw [if_pos ⟨by omega, b⟩, List.getElem?_append_left (by omega), List.getElem?_take, if_pos (by omega), List.getElem?_drop]
    · rw [if_neg (by omega), List.getElem?_append_right (by omega), l2, List.getElem?_drop]
      congr 1
      omega
theorem pcp_len {α : Type} {es ds : List α} {sp dp n : Nat} (h1 : sp + n ≤ es.length) (h2 : dp + n ≤ ds.length) : (ds.take dp ++ ((es.drop sp).take n ++ ds.drop (dp + n))).length = ds.length := by
  rw [List.length_append, List.length_append, List.length_take, List.length_take, List.length_drop, List.length_drop]
  omega
theorem ps_copy (hx : p.tables.exec = Jvm.exec) (hb : c.code = cc) (hml : c.maxLocals = ls.size) {M : pMe} (hown : s.vm.findClass (pR M.1) = some m.cls) (hts : ∀ w ∈ pAll, w.before args s = true) (hK : pKk G s) {L : pHp} (hH : pH G L H) (hlo : ∀ q ∈ locs, pB G ≤ q.base) {x : Nat} (ha : (M.1, x, 5000) ∈ pCs) {sp dp n : Int32} {o d : Nat} {q w : pOb} {r : List Value} (hq : L[o]? = some q) (hw : L[d]? = some w) (q20 : q.1 = 20) (w20 : w.1 = 20)
    (h1 : ¬ sp < 0) (h2 : ¬ dp < 0) (h3 : ¬ n < 0) (h4 : sp.toNatClampNeg + n.toNatClampNeg ≤ q.2.length) (h5 : dp.toNatClampNeg + n.toNatClampNeg ≤ w.2.length) (hqi : q.2.all (pInt false) = true) (hwi : w.2.all (pInt false) = true) (hframes : 1 ≤ R.frames) (hlocals : (r.map fun v => v.category).sum + (nativeFrameWords "java/lang/System" "arraycopy" 5 + 11) ≤ R.locals) (hdg : decode cc pc = .ok (.invokestatic x, 3))
    (kk : ∀ H' locs', pH G (L.set d (w.1, w.2.take dp.toNatClampNeg ++ ((q.2.drop sp.toNatClampNeg).take n.toNatClampNeg ++ w.2.drop (dp.toNatClampNeg + n.toNatClampNeg)))) H' → (∀ q ∈ locs', pB G ≤ q.base) → W p l e R s m args below meth c H' locs' cells slots Q (F0 m (pc + 3) ls r)) :
    W p l e R s m args below meth c H locs cells slots Q (F0 m pc ls (.int n :: .int dp :: .ref (pB G + d) :: .int sp :: .ref (pB G + o) :: r)) := by
  have nn : ∀ z : Int32, ¬ z < 0 → z.toInt = (z.toNatClampNeg : Int) := by
    intro z hz
    have hz0 : (0 : Int) ≤ z.toInt := by
      have := Int32.not_lt.mp hz
      simpa using Int32.le_iff_toInt_le.mp this
    show z.toInt = ((z.toInt.toNat : Nat) : Int)
    omega
  obtain ⟨f, hf⟩ : ∃ f : Nat → Int32, f = fun j => pToI (q.2.getD j .null) := ⟨_, rfl⟩
  obtain ⟨g, hg⟩ : ∃ g : Nat → Int32, g = fun j => pToI (w.2.getD j .null) := ⟨_, rfl⟩
  have hc0 : H[pB G + o]? = some (vp_cell (G.2.2.1 20) (q.2.length, .inl f)) := by
    have hc := (hH.2.2 o q hq).arr (by omega)
    rw [par_ints hqi, q20, ← hf] at hc
    exact hc
  have hc1 : H[pB G + d]? = some (vp_cell (G.2.2.1 20) (w.2.length, .inl g)) := by
    have hc := (hH.2.2 d w hw).arr (by omega)
    rw [par_ints hwi, w20, ← hg] at hc
    exact hc
  have hT20 := (pty_at hK (t := 20) (by decide) (by decide)).1
  obtain ⟨-, k0, hk0, cm0, hkk0⟩ := hT20 q.2.length (fun j => .int (f j))
  obtain ⟨-, k1, hk1, cm1, hkk1⟩ := hT20 w.2.length (fun j => .int (g j))
  have hlink : (Cond.methodLink (pR M.1) x arraycopyName).before args s = true := by have h := hts _ (pa_c ha); simpa [pWc, pWy] using h
  intro T hT X
  obtain ⟨vm', X', step⟩ := X.arraycopy hx hown hlink (hts _ (pa_o (List.mem_of_getElem? (i := 2) rfl))) (hts _ (pa_o (List.mem_of_getElem? (i := 3) rfl))) (hts _ (pa_o (List.mem_of_getElem? (i := 4) rfl))) (src := pB G + o) (dst := pB G + d) (cs := vp_cell (G.2.2.1 20) (q.2.length, .inl f)) (cd := vp_cell (G.2.2.1 20) (w.2.length, .inl g)) (srcPos := sp) (destPos := dp) (n := n) (by rw [hT]; exact hc0) (by rw [hT]; exact hc1)
    (fun _ h => by cases h) (fun _ h => by cases h) (fun h => by cases h) (fun h => by cases h) hk0 hk1 hkk0 hkk1 (by simp [pAty, refKind]) h1 h2 h3
    (by rw [nn sp h1, nn n h3]; show ¬ _ > ((arrV _ q.2.length (fun j => .int (f j))).slots.size : Int); rw [arrV_size]; omega)
    (by rw [nn dp h2, nn n h3]; show ¬ _ > ((arrV _ w.2.length (fun j => .int (g j))).slots.size : Int); rw [arrV_size]; omega)
    (fun vm₁ _ i hi => by
      have e : (vp_cell (G.2.2.1 20) (q.2.length, .inl f)).slots.getD (sp.toNatClampNeg + i) .null = .int (f (sp.toNatClampNeg + i)) := by
        show (arrV _ q.2.length (fun j => .int (f j))).slots.getD _ _ = _
        rw [Array.getD_eq_getD_getElem?, arrV_read _ _ (by omega)]
        rfl
      refine ⟨?_, ?_⟩
      · rw [e]
        rfl
      · rw [e]
        exact trivial)
    (g := F0 m pc ls (.int n :: .int dp :: .ref (pB G + d) :: .int sp :: .ref (pB G + o) :: r)) rfl (by rw [hml]) (rest := r) rfl (by rw [hb]; exact hdg) hframes (by show 2 * 0 + _ + _ ≤ _; omega)
  have e1 : copied (vp_cell (G.2.2.1 20) (q.2.length, .inl f)) (vp_cell (G.2.2.1 20) (w.2.length, .inl g)) sp dp n = vp_cell (G.2.2.1 20) (w.2.length, .inl (va_cpy f g sp.toNatClampNeg dp.toNatClampNeg n.toNatClampNeg)) := va_copied (fun z => .int z) _ _ f g h4
  rw [e1] at X' step
  have hl : pB G + d < H.size := (Array.getElem?_eq_some_iff.mp hc1).1
  generalize hN : vp_cell (G.2.2.1 20) (w.2.length, .inl (va_cpy f g sp.toNatClampNeg dp.toNatClampNeg n.toNatClampNeg)) = cN at X' step
  have hheap : ((T.setVm vm').setCell (pB G + d) cN).heap = H.setIfInBounds (pB G + d) cN := by rw [← hT]; rfl
  have oq : ∀ z : Nat, z ≠ pB G + d → (H.setIfInBounds (pB G + d) cN)[z]? = H[z]? := fun z hz => by simp [Array.getElem?_setIfInBounds, Ne.symm hz]
  have hall : (w.2.take dp.toNatClampNeg ++ ((q.2.drop sp.toNatClampNeg).take n.toNatClampNeg ++ w.2.drop (dp.toNatClampNeg + n.toNatClampNeg))).all (pInt false) = true := by
    rw [List.all_append, List.all_append, Bool.and_eq_true, Bool.and_eq_true]
    refine ⟨?_, ?_, ?_⟩ <;> rw [List.all_eq_true] <;> intro v hv
    · exact List.all_eq_true.mp hwi v (List.mem_of_mem_take hv)
    · exact List.all_eq_true.mp hqi v (List.mem_of_mem_drop (List.mem_of_mem_take hv))
    · exact List.all_eq_true.mp hwi v (List.mem_of_mem_drop hv)
  have hnew : pAt G (pB G + d) (w.1, w.2.take dp.toNatClampNeg ++ ((q.2.drop sp.toNatClampNeg).take n.toNatClampNeg ++ w.2.drop (dp.toNatClampNeg + n.toNatClampNeg))) (H.setIfInBounds (pB G + d) cN) := by
    refine Or.inr (Or.inl ⟨by show 20 ≤ w.1; omega, by show w.1 ≤ 25; omega, ?_⟩)
    rw [par_ints hall]
    show (H.setIfInBounds (pB G + d) cN)[pB G + d]? = some (vp_cell (G.2.2.1 w.1) _)
    rw [w20, pcp_len h4 h5, ← hN]
    simp only [Array.getElem?_setIfInBounds, if_true, hl, Option.some.injEq]
    rw [vp_cell_i, vp_cell_i]
    refine arrV_cg (fun j hj => ?_)
    rw [List.getD_eq_getElem?_getD, pcp_at h4 h5]
    simp only [va_cpy]
    by_cases a : dp.toNatClampNeg ≤ j ∧ j < dp.toNatClampNeg + n.toNatClampNeg
    · rw [if_pos a, if_pos a, hf]
      simp only [List.getD_eq_getElem?_getD]
    · rw [if_neg a, if_neg a, hg]
      simp only [List.getD_eq_getElem?_getD]
  obtain ⟨t, a1, b1⟩ := kk _ _ (ph_set hH hw hnew (by simp) oq) (fun z hz => by
      rcases List.mem_append.mp hz with h | h
      · exact hlo z h
      · obtain ⟨y, -, hy⟩ := List.mem_map.mp h
        rw [← hy]
        exact Nat.le_add_right _ _) _ hheap X'
  exact ⟨t, step t a1, b1⟩
end MEM2
end
section
/-! ALL INSTRUCTIONS of the small machine are the great one's. -/
theorem pmem_kind {sy : Bool} {c : Nat} {ini : Bool} {i : Instr} {a k : Nat} {st st' : List Value} {L L' : pHp} (h : pMem sy c ini i a st L = some (k, st', L')) : L' = L ∨ (∃ (o : Nat) (q q' : pOb), L[o]? = some q ∧ q'.2.length = q.2.length ∧ L' = L.set o q') ∨ ∃ q, L' = L ++ [q] := by
  unfold pMem at h
  split at h
  all_goals first | (cases h; done) | skip
  · split at h
    · split at h
      · split at h
        · obtain ⟨v, -, h2⟩ := omap h
          cases h2
          exact Or.inl rfl
        · cases h
      · cases h
    · cases h
  · split at h
    · split at h
      · rename_i q hq
        split at h
        · cases h
          exact Or.inr (Or.inl ⟨_, q, _, hq, by rw [List.length_set], rfl⟩)
        · cases h
      · cases h
    · cases h
  iterate 4
    · split at h
      · split at h
        · split at h
          · obtain ⟨v, -, h2⟩ := omap h
            cases h2
            exact Or.inl rfl
          · cases h
        · cases h
      · cases h
  iterate 3
    · split at h
      · split at h
        · rename_i q hq
          split at h
          · obtain ⟨v, -, h2⟩ := omap h
            cases h2
            exact Or.inr (Or.inl ⟨_, q, _, hq, by rw [List.length_set], rfl⟩)
          · cases h
        · cases h
      · cases h
  · split at h
    · split at h
      · rename_i q hq
        split at h
        · split at h
          · obtain ⟨v, -, h2⟩ := omap h
            cases h2
            exact Or.inr (Or.inl ⟨_, q, _, hq, by rw [List.length_set], rfl⟩)
          · cases h
        · cases h
      · cases h
    · cases h
  · split at h
    · split at h
      · split at h
        · cases h
          exact Or.inl rfl
        · cases h
      · cases h
    · cases h
  · split at h
    · cases h
      exact Or.inr (Or.inr ⟨_, rfl⟩)
    · cases h
  · split at h
    · split at h
      · split at h
        · cases h
        · cases h
          exact Or.inr (Or.inr ⟨_, rfl⟩)
      · cases h
    · cases h
  · split at h
    · split at h
      · cases h
        exact Or.inr (Or.inr ⟨_, rfl⟩)
      · cases h
    · cases h
  iterate 3
    · split at h
      · cases h
        exact Or.inl rfl
      · cases h
  · split at h
    · split at h
      · split at h
        · rename_i w hw
          split at h
          · rename_i hc
            cases h
            obtain ⟨-, -, -, -, -, -, h4, h5, -⟩ := hc
            exact Or.inr (Or.inl ⟨_, w, _, hw, pcp_len h4 h5, rfl⟩)
          · cases h
        · cases h
      · cases h
    · cases h
  · split at h
    · split at h
      · cases h
        exact Or.inl rfl
      · cases h
    · cases h
theorem pkind_mono {L L' : pHp} (h : L' = L ∨ (∃ (o : Nat) (q q' : pOb), L[o]? = some q ∧ q'.2.length = q.2.length ∧ L' = L.set o q') ∨ ∃ q, L' = L ++ [q]) : L.length ≤ L'.length ∧ pSz L ≤ pSz L' := by
  rcases h with rfl | ⟨o, q, q', h1, h2, rfl⟩ | ⟨q, rfl⟩
  · exact ⟨Nat.le_refl _, Nat.le_refl _⟩
  · exact ⟨by rw [List.length_set]; exact Nat.le_refl _, by rw [psz_set h1 h2]; exact Nat.le_refl _⟩
  · exact ⟨by rw [List.length_append]; exact Nat.le_add_right _ _, by rw [psz_push]; exact Nat.le_add_right _ _⟩
theorem pstep_mono {M : pMe} {e : pEn} {lv : pLv} {st : List Value} {L : pHp} {t : Nat × pLv × List Value × pHp} (h : pStp M e lv st L t) : L.length ≤ t.2.2.2.length ∧ pSz L ≤ pSz t.2.2.2 := by
  rcases h with ⟨st', -, rfl⟩ | ⟨lv', st', -, rfl⟩ | ⟨pc', st', -, rfl⟩ | ⟨st', -, rfl⟩ | ⟨st', L', h1, rfl⟩
  · exact ⟨Nat.le_refl _, Nat.le_refl _⟩
  · exact ⟨Nat.le_refl _, Nat.le_refl _⟩
  · exact ⟨Nat.le_refl _, Nat.le_refl _⟩
  · exact ⟨Nat.le_refl _, Nat.le_refl _⟩
  · exact pkind_mono (pmem_kind h1)
theorem ploop_mono {call : pCl} (hc : ∀ K args L rv Lf, call K args L rv Lf → L.length ≤ Lf.length ∧ pSz L ≤ pSz Lf) {M : pMe} {tab : List pEn} : ∀ (n pc : Nat) (lv : pLv) (st : List Value) (L : pHp) (rv : Option Value) (Lf : pHp), pLoop call M tab n pc lv st L rv Lf → L.length ≤ Lf.length ∧ pSz L ≤ pSz Lf := by
  intro n
  induction n with
  | zero => intro pc lv st L rv Lf h; exact h.elim
  | succ n ih =>
    intro pc lv st L rv Lf h
    obtain ⟨e, -, -, -, h⟩ := h
    rcases h with ⟨-, rfl⟩ | ⟨t, h1, h2⟩ | ⟨q, r1, L1, -, h2, h3⟩
    · exact ⟨Nat.le_refl _, Nat.le_refl _⟩
    · have a := pstep_mono h1
      have b := ih _ _ _ _ _ _ h2
      exact ⟨Nat.le_trans a.1 b.1, Nat.le_trans a.2 b.2⟩
    · have a := hc _ _ _ _ _ h2
      have b := ih _ _ _ _ _ _ h3
      exact ⟨Nat.le_trans a.1 b.1, Nat.le_trans a.2 b.2⟩
theorem pex_mono : ∀ (d K : Nat) (args : List Value) (L : pHp) (rv : Option Value) (Lf : pHp), pEx d K args L rv Lf → L.length ≤ Lf.length ∧ pSz L ≤ pSz Lf := by
  intro d
  induction d with
  | zero => intro K args L rv Lf h; exact h.elim
  | succ d ih =>
    intro K args L rv Lf h
    obtain ⟨-, n, h⟩ := h
    exact ploop_mono ih _ _ _ _ _ _ _ h
/-- a frame of the great machine that runs a method of the tables -/
def pFx (G : pG) (M : pMe) (p : Program) (R : Room) (s : State) (m : MethodId) (args : Array Value) (meth : Method) (c : Code) (L0 : pHp) : Prop :=
  p.tables.exec = Jvm.exec ∧ c.code = M.2.2.1 ∧ c.maxLocals = M.2.2.2.1 ∧ s.vm.findClass (pR M.1) = some m.cls ∧ (M.2.1.name = "<init>" → meth.name = "<init>") ∧ (∀ w ∈ pWM M, w.before args s = true) ∧ pKk G s ∧ pH G L0 s.heap ∧ meth.locks = false ∧ meth.sig.returnType = M.2.2.2.2.1 ∧ 1 ≤ R.frames ∧ 200 ≤ R.locals
section SND
variable {p : Program} {l : Launch} {e : Env} {R : Room} {s : State} {m : MethodId} {args : Array Value} {below : List Frame} {meth : Method} {c : Code} {H : Heap} {locs : List Loc} {cells slots : Nat} {Q : State → Prop}
variable {pc : Nat} {ls : Array Slot} {G : pG}
theorem pfs_of {c0 x a : Nat} (h : pAux c0 (.getfield x) a = true) (ha : a < 9000) : (c0, x, a) ∈ pFs := by
  have h : (if 9000 ≤ a then pQs.contains (c0, x, a) else pFs.contains (c0, x, a)) = true := h
  rw [if_neg (by omega)] at h
  simpa using h
theorem paux_copy {c0 x : Nat} (h : pAux c0 (.invokestatic x) 5000 = true) : (c0, x, 5000) ∈ pCs := by
  have h : ((5000 / 1000 == 1 && pCs.contains (c0, x, 5000) && pTt.contains (5000 % 1000)) || (5000 == 5000 && pCs.contains (c0, x, 5000))) = true := h
  simpa using h
theorem paux_obj {c0 x : Nat} (h : pAux c0 (.invokespecial x) 4000 = true) : (c0, x, 4000) ∈ pCs := by
  have h : ((4000 / 1000 == 2 && pCs.contains (c0, x, 4000) && pJs.contains (4000 % 1000)) || (4000 / 1000 == 3 && pC3.contains (c0, x, 4000) && pJs.contains (4000 % 1000)) || (4000 == 4000 && pCs.contains (c0, x, 4000))) = true := h
  simpa using h
theorem obj_link {c0 x : Nat} (hts : ∀ w ∈ pAll, w.before args s = true) (ha : pAux c0 (.invokespecial x) 4000 = true) : (Cond.methodLink (pR c0) x objectInit).before args s = true := by
  have h := hts _ (pa_c (paux_obj ha))
  simpa [pWc, pWy] using h
set_option maxHeartbeats 4000000 in
theorem ps_mem {M : pMe} {L0 : pHp} (F : pFx G M p R s m args meth c L0) {L L' : pHp} (hH : pH G L H) (hlo : ∀ q ∈ locs, pB G ≤ q.base) (hl : ls.size = M.2.2.2.1) (hn : L0.length ≤ L.length) (hs : pSz L0 ≤ pSz L) (hcells : cells = L.length - L0.length) (hslots : slots = pSz L - pSz L0) (hrc : L'.length - L0.length ≤ R.cells) (hrs : pSz L' - pSz L0 ≤ R.slots)
    {i : Instr} {a k : Nat} {st st' : List Value} (h : pMem false M.1 (M.2.1.name == "<init>") i a st L = some (k, st', L')) (ha : pAux M.1 i a = true) (hd : decode M.2.2.1 pc = .ok (i, k))
    (kk : ∀ H' locs' cells' slots', pH G L' H' → (∀ q ∈ locs', pB G ≤ q.base) → cells' = L'.length - L0.length → slots' = pSz L' - pSz L0 → W p l e R s m args below meth c H' locs' cells' slots' Q (F0 m (pc + k) ls (st'.map (pSh G)))) : W p l e R s m args below meth c H locs cells slots Q (F0 m pc ls (st.map (pSh G))) := by
  obtain ⟨hx, hb, hml, hown, hini, hts0, hK, h0, hlk, hret, hfr, hlcl⟩ := F
  have hts : ∀ w ∈ pAll, w.before args s = true := fun w hw => hts0 w (List.mem_cons_of_mem _ hw)
  have hset : ∀ (o : Nat) (q q' : pOb), L[o]? = some q → q'.2.length = q.2.length → L' = L.set o q' → ∀ H' locs', pH G (L.set o q') H' → (∀ q ∈ locs', pB G ≤ q.base) → W p l e R s m args below meth c H' locs' cells slots Q (F0 m (pc + k) ls (st'.map (pSh G))) := by
    intro o q q' h1 h2 h3 H' locs' h4 h5
    subst h3
    exact kk H' locs' cells slots h4 h5 (by rw [List.length_set]; exact hcells) (by rw [psz_set h1 h2]; exact hslots)
  have hsame : L' = L → W p l e R s m args below meth c H locs cells slots Q (F0 m (pc + k) ls (st'.map (pSh G))) := by
    intro h1
    subst h1
    exact kk H locs cells slots hH hlo hcells hslots
  unfold pMem at h
  split at h
  all_goals first | (cases h; done) | skip
  · split at h
    · split at h
      · rename_i q hq
        split at h
        · rename_i hc
          obtain ⟨v, h1, h2⟩ := omap h
          cases h2
          exact ps_getf hx hb hown hts hK hH (pfs_of ha (by omega)) hq hc.1 hc.2.1 hc.2.2 h1 hd (hsame rfl)
        · cases h
      · cases h
    · cases h
  · split at h
    · split at h
      · rename_i q hq
        split at h
        · rename_i hc
          cases h
          have hw : pFs.contains (M.1, _, a) = true := ha
          exact ps_putf hx hb hown hini hts hK hH hlo (by simpa using hw) hq hc.1 hc.2.1 hc.2.2.1 hc.2.2.2 hd (hset _ _ _ hq (by rw [List.length_set]) rfl)
        · cases h
      · cases h
    · cases h
  · split at h
    · split at h
      · rename_i q hq
        split at h
        · rename_i hc
          obtain ⟨v, h1, h2⟩ := omap h
          cases h2
          exact ps_iald hx hb hK hH hq hc h1 hd (hsame rfl)
        · cases h
      · cases h
    · cases h
  · split at h
    · split at h
      · rename_i q hq
        split at h
        · rename_i hc
          obtain ⟨v, h1, h2⟩ := omap h
          cases h2
          exact ps_bald hx hb hK hH hq hc h1 hd (hsame rfl)
        · cases h
      · cases h
    · cases h
  · split at h
    · split at h
      · rename_i q hq
        split at h
        · rename_i hc
          obtain ⟨v, h1, h2⟩ := omap h
          cases h2
          exact ps_lald hx hb hK hH hq hc h1 hd (hsame rfl)
        · cases h
      · cases h
    · cases h
  · split at h
    · split at h
      · rename_i q hq
        split at h
        · rename_i hc
          obtain ⟨v, h1, h2⟩ := omap h
          cases h2
          exact ps_aald hx hb hK hH hq hc h1 hd (hsame rfl)
        · cases h
      · cases h
    · cases h
  · split at h
    · split at h
      · rename_i q hq
        split at h
        · rename_i hc
          obtain ⟨y, rfl⟩ := pint_of hc.2
          obtain ⟨v, h1, h2⟩ := omap h
          cases h2
          exact ps_iast hx hb hK hH hlo hq hc.1 h1 hd (hset _ _ _ hq (by rw [List.length_set]) rfl)
        · cases h
      · cases h
    · cases h
  · split at h
    · split at h
      · rename_i q hq
        split at h
        · rename_i hc
          obtain ⟨y, rfl⟩ := pint_of hc.2
          obtain ⟨v, h1, h2⟩ := omap h
          cases h2
          exact ps_bast hx hb hK hH hlo hq hc.1 h1 hd (hset _ _ _ hq (by rw [List.length_set]) rfl)
        · cases h
      · cases h
    · cases h
  · split at h
    · split at h
      · rename_i q hq
        split at h
        · rename_i hc
          obtain ⟨v, h1, h2⟩ := omap h
          cases h2
          exact ps_last hx hb hK hH hlo hq hc h1 hd (hset _ _ _ hq (by rw [List.length_set]) rfl)
        · cases h
      · cases h
    · cases h
  · split at h
    · split at h
      · rename_i q hq
        split at h
        · rename_i w hw
          split at h
          · rename_i hc
            obtain ⟨v, h1, h2⟩ := omap h
            cases h2
            exact ps_aast hx hb hK hH hlo hq hw hc h1 hd (hset _ _ _ hq (by rw [List.length_set]) rfl)
          · cases h
        · cases h
      · cases h
    · cases h
  · split at h
    · split at h
      · rename_i q hq
        split at h
        · rename_i hc
          cases h
          exact ps_alen hx hb hK hH hq hc.1 hc.2 hd (hsame rfl)
        · cases h
      · cases h
    · cases h
  · split at h
    · rename_i hc
      cases h
      rw [List.length_append] at hrc
      rw [psz_push] at hrs
      simp only [List.length_singleton, pDef_len] at hrc hrs
      have hw : pNs.contains (M.1, _, a) = true := ha
      exact ps_new hx hb hown hts hK hH (by simpa using hw) hc (by omega) (by omega) hd (fun H' h' => kk H' locs _ _ h' hlo (by rw [List.length_append]; simp only [List.length_singleton]; omega) (by rw [psz_push, pDef_len]; omega))
    · cases h
  · split at h
    · split at h
      · rename_i g hg
        split at h
        · cases h
        · rename_i hc
          cases h
          rw [List.length_append] at hrc
          rw [psz_push] at hrs
          simp only [List.length_singleton, List.length_replicate] at hrc hrs
          exact ps_newa hx hb hts hK hH hg hc (by omega) (by omega) hd (fun H' h' => kk H' locs _ _ h' hlo (by rw [List.length_append]; simp only [List.length_singleton]; omega) (by rw [psz_push]; simp only [List.length_replicate]; omega))
      · cases h
    · cases h
  · split at h
    · split at h
      · rename_i hc
        cases h
        rw [List.length_append] at hrc
        rw [psz_push] at hrs
        simp only [List.length_singleton, List.length_replicate] at hrc hrs
        have hw : pAn.contains (M.1, _, a) = true := ha
        exact ps_anew hx hb hown hts hK hH (by simpa using hw) hc.1 hc.2 (by omega) (by omega) hd (fun H' h' => kk H' locs _ _ h' hlo (by rw [List.length_append]; simp only [List.length_singleton]; omega) (by rw [psz_push]; simp only [List.length_replicate]; omega))
      · cases h
    · cases h
  · split at h
    · rename_i x _ q hq
      cases h
      have hz : a < 900 := Nat.lt_of_lt_of_le (List.getElem?_eq_some_iff.mp hq).1 (by decide)
      have hw : q.1 = M.1 ∧ q.2.1 = x := by
        have hz2 : (a == 900) = false := by simp; omega
        simpa [pAux, hq, hz2] using ha
      obtain ⟨w1, w2⟩ := hw
      have hkw := hts _ (pa_k (List.mem_of_getElem? hq))
      unfold pWk at hkw
      rw [w1, w2] at hkw
      exact lv_ldc hx hb hown hkw hd (hsame rfl)
    · cases h
  · split at h
    · rename_i x _ q hq
      cases h
      have hw : q.1 = M.1 ∧ q.2.1 = x := by simpa [pAux, hq] using ha
      obtain ⟨w1, w2⟩ := hw
      have hkw := hts _ (pa_k (List.mem_of_getElem? hq))
      unfold pWk at hkw
      rw [w1, w2] at hkw
      exact lv_ldcw hx hb hown hkw hd (hsame rfl)
    · cases h
  · split at h
    · rename_i x _ q hq
      cases h
      have hw : q.1 = M.1 ∧ q.2.1 = x := by simpa [pAux, hq] using ha
      obtain ⟨w1, w2⟩ := hw
      have hkw := hts _ (pa_l (List.mem_of_getElem? hq))
      unfold pWl at hkw
      rw [w1, w2] at hkw
      exact lv_ldc2 hx hb hown hkw hd (hsame rfl)
    · cases h
  · split at h
    · split at h
      · rename_i q hq
        split at h
        · rename_i w hw
          split at h
          · rename_i hc
            cases h
            obtain ⟨rfl, c1, c2, c3, c4, c5, c6, c7, c8, c9, c10⟩ := hc
            exact ps_copy hx hb (hml.trans hl.symm) hown hts hK hH hlo (paux_copy ha) hq hw c1 c2 c3 c4 c5 c6 c7 c8 c9 hfr (by
              rw [psh_cats hK.2.2.2.2.1]
              have : nativeFrameWords "java/lang/System" "arraycopy" 5 ≤ 100 := by decide +kernel
              omega) hd (hset _ _ _ hw (pcp_len c6 c7) rfl)
          · cases h
        · cases h
      · cases h
    · cases h
  · split at h
    · split at h
      · rename_i hc
        cases h
        obtain ⟨rfl, c1⟩ := hc
        exact W.objInit hx hb hown (obj_link hts ha) (hts _ (pa_o (List.mem_of_getElem? (i := 0) rfl))) (hts _ (pa_o (List.mem_of_getElem? (i := 1) rfl))) rfl (hl.trans hml.symm) rfl hd hfr (by
          show 2 * 0 + _ + 12 ≤ _
          rw [psh_cats hK.2.2.2.2.1]
          omega) (hsame rfl)
      · cases h
    · cases h
end SND
end
section
/-! A RUN of the small machine is one of the great one: the contract of every method out of its small run. -/
def pPc (G : pG) (as : List Value) (L : pHp) : Array Value → State → Prop := fun a U => a = (as.map (pSh G)).toArray ∧ pH G L U.heap ∧ pKk G U
def pQc (G : pG) (rv : Option Value) (Lf : pHp) : Array Value → State → Outcome → State → Prop := fun _ _ o t => o = .returned (rv.map (pSh G)) ∧ pH G Lf t.heap
def pRm (d mc ms : Nat) : Room := { frames := d, cells := mc, slots := ms, locals := 200 * d }
theorem ppc_blind {G : pG} {as : List Value} {L : pHp} : FrameBlind (pPc G as L) := fun _ U g mk h => ⟨h.1, h.2.1, pKk.same (u := U) rfl h.2.2⟩
theorem pMt_mem {K : Nat} (h : K < pMs.length) : pMt K ∈ pMs := by
  unfold pMt
  rw [List.getD_eq_getElem?_getD, List.getElem?_eq_getElem h]
  exact List.getElem_mem h
section SND2
variable {p : Program} {l : Launch} {e : Env} {R : Room} {s : State} {m : MethodId} {args : Array Value} {below : List Frame} {meth : Method} {c : Code} {H : Heap} {locs : List Loc} {cells slots : Nat} {Q : State → Prop}
variable {pc : Nat} {ls : Array Slot} {G : pG}
theorem pok_of {c0 : Nat} {cc : ByteArray} {en : pEn} (h : pOkE c0 cc en = true) (hlt : en.2.2.2 < 99999) : decode cc en.1 = .ok (en.2.1, en.2.2.1) ∧ pAux c0 en.2.1 en.2.2.2 = true := by
  unfold pOkE at h
  have hz : (en.2.2.2 == 999999) = false := by simp; omega
  rw [hz, Bool.false_or, Bool.and_eq_true, decide_eq_true_eq] at h
  exact h
theorem ps_step {M : pMe} {L0 : pHp} (F : pFx G M p R s m args meth c L0) {en : pEn} (hok : pOkE M.1 M.2.2.1 en = true) (hlt : en.2.2.2 < 99999) {lv : pLv} {st : List Value} {L : pHp} {t : Nat × pLv × List Value × pHp} (h : pStp M en lv st L t) (hH : pH G L H) (hlo : ∀ q ∈ locs, pB G ≤ q.base) (hl : lv_has ls M.2.2.2.1 (pLm G lv)) (hn : L0.length ≤ L.length) (hs : pSz L0 ≤ pSz L) (hcells : cells = L.length - L0.length) (hslots : slots = pSz L - pSz L0)
    (hrc : t.2.2.2.length - L0.length ≤ R.cells) (hrs : pSz t.2.2.2 - pSz L0 ≤ R.slots)
    (kk : ∀ H' locs' cells' slots' ls', pH G t.2.2.2 H' → (∀ q ∈ locs', pB G ≤ q.base) → lv_has ls' M.2.2.2.1 (pLm G t.2.1) → cells' = t.2.2.2.length - L0.length → slots' = pSz t.2.2.2 - pSz L0 → W p l e R s m args below meth c H' locs' cells' slots' Q (F0 m t.1 ls' (t.2.2.1.map (pSh G)))) : W p l e R s m args below meth c H locs cells slots Q (F0 m en.1 ls (st.map (pSh G))) := by
  obtain ⟨hd, ha⟩ := pok_of hok hlt
  obtain ⟨hx, hb, hml, hown, hini, hts0, hK, h0, hlk, hret, hfr, hlcl⟩ := id F
  have hts : ∀ w ∈ pAll, w.before args s = true := fun w hw => hts0 w (List.mem_cons_of_mem _ hw)
  have hV : pV1 G := hK.2.2.2.2.1
  rcases h with ⟨st', h1, rfl⟩ | ⟨lv', st', h1, rfl⟩ | ⟨pc', st', h1, rfl⟩ | ⟨st', h1, rfl⟩ | ⟨st', L', h1, rfl⟩
  · exact ps_stk hx hb hV h1 hd (kk H locs cells slots ls hH hlo hl hcells hslots)
  · exact ps_loc hx hb hV h1 hd hl (fun ls' h' => kk H locs cells slots ls' hH hlo h' hcells hslots)
  · exact ps_jmp hx hb h1 hd (kk H locs cells slots ls hH hlo hl hcells hslots)
  · exact ps_xtr hx hb hown hts hK h0 hH hn hlo h1 ha hd (kk H locs cells slots ls hH hlo hl hcells hslots)
  · exact ps_mem F hH hlo hl.1 hn hs hcells hslots hrc hrs h1 ha hd (fun H' locs' cells' slots' a1 a2 a3 a4 => kk H' locs' cells' slots' ls a1 a2 hl a3 a4)
theorem ps_call {as : List Value} {r1 : Option Value} {L1 : pHp} {mc ms : Nat} {st0 rest : List Value} (hr : va_Run p l e R s m args below meth c H locs cells slots mc ms (F0 m pc ls st0) rest (pQc G r1 L1 as.toArray) (pA G)) (hlo : ∀ q ∈ locs, pB G ≤ q.base)
    (kk : ∀ H1 locs1, pH G L1 H1 → (∀ q ∈ locs1, pB G ≤ q.base) → W p l e R s m args below meth c H1 locs1 (cells + mc) (slots + ms) Q (F0 m (pc + 3) ls ((r1.map (pSh G)).toList ++ rest))) : W p l e R s m args below meth c H locs cells slots Q (F0 m pc ls st0) := by
  intro T hT X
  obtain ⟨v, st₀, t, T', L', h0, X', hL, e1, e2, ⟨hv, hp⟩, st⟩ := hr T hT X
  cases hv
  obtain ⟨t2, a1, b1⟩ := kk T'.heap (locs ++ L') (by rw [e1]; exact hp) (fun q hq => (List.mem_append.mp hq).elim (hlo q) (hL q)) T' rfl X'
  exact ⟨t2, st t2 a1, b1⟩
theorem pst_split {n : Nat} {st : List Value} {v : Value} {r : List Value} (h : st.drop n = v :: r) : st.map (pSh G) = (((st.take n).reverse).map (pSh G)).reverse ++ pSh G v :: r.map (pSh G) := by
  conv => lhs; rw [← List.take_append_drop n st, h]
  rw [List.map_append, List.map_reverse, List.reverse_reverse, List.map_cons]
theorem pst_split0 {n : Nat} {st : List Value} : st.map (pSh G) = (((st.take n).reverse).map (pSh G)).reverse ++ (st.drop n).map (pSh G) := by
  conv => lhs; rw [← List.take_append_drop n st]
  rw [List.map_append, List.map_reverse, List.reverse_reverse]
theorem paux_v {c0 x a : Nat} (h : pAux c0 (.invokevirtual x) a = true) : a / 1000 = 0 ∧ (c0, x, a) ∈ pCs ∧ a % 1000 ∈ pJs ∧ a % 1000 ∈ pSs := by
  have h : (a / 1000 == 0 && pCs.contains (c0, x, a) && pJs.contains (a % 1000) && pSs.contains (a % 1000)) = true := h
  simp only [Bool.and_eq_true, beq_iff_eq, List.contains_iff_mem] at h
  exact ⟨h.1.1.1, h.1.1.2, h.1.2, h.2⟩
theorem paux_s {c0 x a : Nat} (h : pAux c0 (.invokestatic x) a = true) (ha : a < 4000) : a / 1000 = 1 ∧ (c0, x, a) ∈ pCs ∧ a % 1000 ∈ pTt := by
  have h : ((a / 1000 == 1 && pCs.contains (c0, x, a) && pTt.contains (a % 1000)) || (a == 5000 && pCs.contains (c0, x, a))) = true := h
  have hz : (a == 5000) = false := by simp; omega
  simp only [hz, Bool.false_and, Bool.or_false, Bool.and_eq_true, beq_iff_eq, List.contains_iff_mem] at h
  exact ⟨h.1.1, h.1.2, h.2⟩
theorem paux_i {c0 x a : Nat} (h : pAux c0 (.invokespecial x) a = true) (ha : a < 4000) : a % 1000 ∈ pJs ∧ ((a / 1000 = 2 ∧ (c0, x, a) ∈ pCs) ∨ (a / 1000 = 3 ∧ (c0, x, a) ∈ pC3)) := by
  have h : ((a / 1000 == 2 && pCs.contains (c0, x, a) && pJs.contains (a % 1000)) || (a / 1000 == 3 && pC3.contains (c0, x, a) && pJs.contains (a % 1000)) || (a == 4000 && pCs.contains (c0, x, a))) = true := h
  have hz : (a == 4000) = false := by simp; omega
  simp only [hz, Bool.false_and, Bool.or_false, Bool.or_eq_true, Bool.and_eq_true, beq_iff_eq, List.contains_iff_mem] at h
  rcases h with h | h
  · exact ⟨h.2, Or.inl h.1⟩
  · exact ⟨h.2, Or.inr h.1⟩
theorem pwy_of {a : Nat} (h : a < 4000) : pWy a = pMy (a % 1000) := by
  unfold pWy
  rw [if_neg (by omega), if_neg (by omega)]
set_option maxHeartbeats 4000000 in
theorem ps_arg {M : pMe} {L0 : pHp} (F : pFx G M p R s m args meth c L0) {en : pEn} (hok : pOkE M.1 M.2.2.1 en = true) (hlt : en.2.2.2 < 99999) {lv : pLv} {st : List Value} {L L1 : pHp} {K : Nat} {as rest : List Value} {r1 : Option Value} (h : pArg en st L = some (K, as, rest)) {d : Nat} (hM : Met l (pMy K) (pWM (pMt K)) (pRm d (L1.length - L.length) (pSz L1 - pSz L)) (pPc G as L) (pQc G r1 L1) (L1.length - L.length) (pSz L1 - pSz L) (pA G)) (hRf : d + 1 ≤ R.frames) (hRl : 200 * (d + 1) ≤ R.locals)
    (hH : pH G L H) (hlo : ∀ q ∈ locs, pB G ≤ q.base) (hl : lv_has ls M.2.2.2.1 (pLm G lv)) (hrc : cells + (L1.length - L.length) ≤ R.cells) (hrs : slots + (pSz L1 - pSz L) ≤ R.slots)
    (kk : ∀ H1 locs1, pH G L1 H1 → (∀ q ∈ locs1, pB G ≤ q.base) → W p l e R s m args below meth c H1 locs1 (cells + (L1.length - L.length)) (slots + (pSz L1 - pSz L)) Q (F0 m (en.1 + 3) ls ((r1.toList ++ rest).map (pSh G)))) : W p l e R s m args below meth c H locs cells slots Q (F0 m en.1 ls (st.map (pSh G))) := by
  obtain ⟨hd, ha⟩ := pok_of hok hlt
  obtain ⟨hx, hb, hml, hown, hini, hts0, hK, h0, hlk, hret, hfr, hlcl⟩ := id F
  have hts : ∀ w ∈ pAll, w.before args s = true := fun w hw => hts0 w (List.mem_cons_of_mem _ hw)
  have hV : pV1 G := hK.2.2.2.2.1
  have hkk : ∀ H1 locs1, pH G L1 H1 → (∀ q ∈ locs1, pB G ≤ q.base) → W p l e R s m args below meth c H1 locs1 (cells + (L1.length - L.length)) (slots + (pSz L1 - pSz L)) Q (F0 m (en.1 + 3) ls ((r1.map (pSh G)).toList ++ rest.map (pSh G))) := by
    intro H1 locs1 a1 a2
    have h9 := kk H1 locs1 a1 a2
    rw [List.map_append] at h9
    cases r1 with
    | none => exact h9
    | some v => exact h9
  unfold pArg at h
  simp only at h
  split at h
  · rename_i hc
    obtain ⟨c1, c2, c3, c4⟩ := hc
    have hmem := pMt_mem c3
    obtain ⟨m1, m2, m3, m4, m5, m6, m7⟩ := pMok_of hmem
    have hini2 : (Cond.initialized (pMy (en.2.2.2 % 1000)).cls).before args s = true := by
      have h9 := hts _ (pa_z (pZz_all _ m7))
      unfold pWz at h9
      rw [← m1] at h9
      exact h9
    have hG := pWM_good (M := M) hmem
    have hroom : ∀ mc ms : Nat, (pRm d mc ms).frames + 1 ≤ R.frames ∧ 8 + ((pMt (en.2.2.2 % 1000)).2.2.2.1 + 11) + (pRm d mc ms).locals ≤ R.locals := by
      intro mc ms
      refine ⟨hRf, ?_⟩
      show 8 + ((pMt (en.2.2.2 % 1000)).2.2.2.1 + 11) + 200 * d ≤ R.locals
      omega
    have hlen : (((st.take (pMt (en.2.2.2 % 1000)).2.2.2.2.2).reverse).map (pSh G)).length = (pMt (en.2.2.2 % 1000)).2.2.2.2.2 := by
      rw [List.length_map, List.length_reverse, List.length_take]
      omega
    rw [c1] at hd
    split at h
    · rename_i x hi
      rw [hi] at ha hd
      obtain ⟨a1, a2, a3⟩ := paux_s ha c2
      split at h
      · rename_i hcat
        cases h
        have hlk2 := hts _ (pa_c a2)
        unfold pWc at hlk2
        rw [pwy_of c2] at hlk2
        have hcb := callB_of (R := R) (own := pR M.1) (index := x) (pMt (en.2.2.2 % 1000)).2.2.2.2.2 hts0 hG rfl rfl rfl hini2 hlk2 ⟨m3, m4, m5⟩ (hroom (L1.length - L.length) (pSz L1 - pSz L))
        rw [pst_split0 (n := (pMt (en.2.2.2 % 1000)).2.2.2.2.2)]
        exact ps_call (as := ((st.take (pMt (en.2.2.2 % 1000)).2.2.2.2.2).reverse).map (pSh G)) (va_runS ⟨hx, hb, hml, hown, hts0⟩ hM ⟨hcb, hts _ (pa_t a3)⟩ ⟨ppc_blind, fun U hU hW => ⟨rfl, by rw [hU]; exact hH, hK.warm hW⟩⟩ rfl hlen hl.1 rfl (lv_room (by rw [psh_cats hV]; exact hcat)) hd ⟨hrc, hrs⟩) hlo hkk
      · cases h
    · rename_i x hi
      rw [hi] at ha hd
      obtain ⟨a1, a2, a3, a4⟩ := paux_v ha
      have hlk2 := hts _ (pa_c a2)
      unfold pWc at hlk2
      rw [pwy_of c2] at hlk2
      have hcb := callB_of (R := R) (own := pR M.1) (index := x) (pMt (en.2.2.2 % 1000)).2.2.2.2.2 hts0 hG rfl rfl rfl hini2 hlk2 ⟨m3, m4, m5⟩ (hroom (L1.length - L.length) (pSz L1 - pSz L))
      split at h
      · rename_i o r hdr
        split at h
        · rename_i hcat
          cases h
          obtain ⟨k1, k2, k3⟩ := hcat
          obtain ⟨q, hq, hq1⟩ := omap k2
          have hrecv : ∃ cellB : Cell, H[pB G + o]? = some cellB ∧ cellB.vm.isStatics = false ∧ s.vm.findClass (pMy (en.2.2.2 % 1000)).cls = some cellB.cls := by
            obtain ⟨-, cell, g1, g2, g3, -⟩ := (hH.2.2 o q hq).obj (by omega)
            refine ⟨cell, g1, by rw [g3]; rfl, ?_⟩
            show s.vm.findClass (pMt (en.2.2.2 % 1000)).2.1.cls = _
            rw [m1, g2, hq1]
            exact (hK.1.1 _ _ (pCl_at _ k3)).2.1
          rw [pst_split hdr]
          exact ps_call (as := (.ref o :: (st.take (pMt (en.2.2.2 % 1000)).2.2.2.2.2).reverse).map (pSh G)) (va_runV ⟨hx, hb, hml, hown, hts0⟩ hM ⟨hcb, hts _ (pa_j a3), hts _ (pa_s a4)⟩ ⟨ppc_blind, hrecv, fun U hU hW => ⟨rfl, by rw [hU]; exact hH, hK.warm hW⟩⟩ rfl hlen hl.1 rfl (lv_room (by rw [psh_cats hV]; exact k1)) hd ⟨hrc, hrs⟩) hlo hkk
        · cases h
      · rename_i u r hdr
        split at h
        · rename_i hcat
          cases h
          obtain ⟨k1, rfl, k3⟩ := hcat
          have hrecv : ∃ cellB : Cell, H[G.2.2.2.1.2.1]? = some cellB ∧ cellB.vm.isStatics = false ∧ s.vm.findClass (pMy (en.2.2.2 % 1000)).cls = some cellB.cls := by
            obtain ⟨cell, g1, g2, g3, -⟩ := hK.2.2.2.2.2.2.2.1.kept (H1 := H) (fun a _ hA => hH.1 a (Nat.not_le.mp hA))
            refine ⟨cell, g1, g2, ?_⟩
            show s.vm.findClass (pMt (en.2.2.2 % 1000)).2.1.cls = _
            rw [m1, k3]
            exact g3
          rw [pst_split hdr]
          exact ps_call (as := (.float 0 :: (st.take (pMt (en.2.2.2 % 1000)).2.2.2.2.2).reverse).map (pSh G)) (va_runV ⟨hx, hb, hml, hown, hts0⟩ hM ⟨hcb, hts _ (pa_j a3), hts _ (pa_s a4)⟩ ⟨ppc_blind, hrecv, fun U hU hW => ⟨rfl, by rw [hU]; exact hH, hK.warm hW⟩⟩ rfl hlen hl.1 rfl (lv_room (by rw [psh_cats hV]; exact k1)) hd ⟨hrc, hrs⟩) hlo hkk
        · cases h
      · cases h
    · rename_i x hi
      rw [hi] at ha hd
      obtain ⟨a3, a2⟩ := paux_i ha c2
      split at h
      · rename_i o r hdr
        split at h
        · rename_i hcat
          cases h
          obtain ⟨k1, k2⟩ := hcat
          have hpre : PreS s H (pPc G (.ref o :: (st.take (pMt (en.2.2.2 % 1000)).2.2.2.2.2).reverse) L) (.ref (pB G + o) :: ((st.take (pMt (en.2.2.2 % 1000)).2.2.2.2.2).reverse).map (pSh G)) := ⟨ppc_blind, fun U hU hW => ⟨rfl, by rw [hU]; exact hH, hK.warm hW⟩⟩
          have hret2 : (pMt (en.2.2.2 % 1000)).2.2.2.2.1 = none := pini_ret hmem k2
          rw [pst_split hdr]
          have hwm : pWM (pMt (en.2.2.2 % 1000)) = Cond.code (pMy (en.2.2.2 % 1000)) (pMt (en.2.2.2 % 1000)).2.2.1 (pMt (en.2.2.2 % 1000)).2.2.2.1 none :: pAll := by
            show Cond.code _ _ _ (pMt (en.2.2.2 % 1000)).2.2.2.2.1 :: pAll = _
            rw [hret2]
            rfl
          rcases a2 with ⟨b1, b2⟩ | ⟨b1, b2⟩
          · have hlk2 := hts _ (pa_c b2)
            unfold pWc at hlk2
            rw [pwy_of c2] at hlk2
            have hcb := callB_of (R := R) (own := pR M.1) (index := x) (pMt (en.2.2.2 % 1000)).2.2.2.2.2 hts0 hG hwm rfl rfl hini2 hlk2 ⟨m3, m4, m5⟩ (hroom (L1.length - L.length) (pSz L1 - pSz L))
            exact ps_call (as := (.ref o :: (st.take (pMt (en.2.2.2 % 1000)).2.2.2.2.2).reverse).map (pSh G)) (va_runI ⟨hx, hb, hml, hown, hts0⟩ hM ⟨hcb, k2, hts _ (pa_j a3)⟩ hpre rfl hlen hl.1 rfl (lv_room (by rw [psh_cats hV]; exact k1)) hd ⟨hrc, hrs⟩) hlo hkk
          · have hcb := va_cnB (R := R) (own := pR M.1) (index := x) (pMt (en.2.2.2 % 1000)).2.2.2.2.2 hts0 hG hwm rfl rfl (hK.2.1 _ b2) hini2 ⟨m3, m4, m5⟩ (hroom (L1.length - L.length) (pSz L1 - pSz L))
            exact ps_call (as := (.ref o :: (st.take (pMt (en.2.2.2 % 1000)).2.2.2.2.2).reverse).map (pSh G)) (va_runIN ⟨hx, hb, hml, hown, hts0⟩ hM ⟨hcb, k2, hts _ (pa_j a3)⟩ hpre rfl hlen hl.1 rfl (lv_room (by rw [psh_cats hV]; exact k1)) hd ⟨hrc, hrs⟩) hlo hkk
        · cases h
      · cases h
    · cases h
  · cases h
end SND2
end
section
/-! EVERY SMALL RUN GIVES A CONTRACT. -/
theorem parg_lt {en : pEn} {st : List Value} {L : pHp} {K : Nat} {as rest : List Value} (h : pArg en st L = some (K, as, rest)) : K < pMs.length := by
  unfold pArg at h
  simp only at h
  split at h
  · rename_i hc
    have key : ∀ (x : Option (Nat × List Value × List Value)), x = some (K, as, rest) → (∀ a b c, x = some (a, b, c) → a = en.2.2.2 % 1000) → K < pMs.length := by
      intro x hx hk
      rw [hk _ _ _ hx]
      exact hc.2.2.1
    refine key _ h ?_
    intro a b c h
    split at h
    · split at h
      · cases h; rfl
      · cases h
    · split at h
      · split at h
        · cases h; rfl
        · cases h
      · split at h
        · cases h; rfl
        · cases h
      · cases h
    · split at h
      · split at h
        · cases h; rfl
        · cases h
      · cases h
    · cases h
  · cases h
section SND3
variable {p : Program} {l : Launch} {e : Env} {R : Room} {s : State} {m : MethodId} {args : Array Value} {below : List Frame} {meth : Method} {c : Code} {G : pG}
theorem ps_ret {M : pMe} {L0 : pHp} (F : pFx G M p R s m args meth c L0) {en : pEn} (hok : pOkE M.1 M.2.2.1 en = true) (hlt : en.2.2.2 < 99999) {st : List Value} {L : pHp} {rv : Option Value} (h : pRet M.2.2.2.2.1 en st = some rv) {H : Heap} {locs : List Loc} {ls : Array Slot} (hH : pH G L H) (hlo : ∀ q ∈ locs, pB G ≤ q.base) {cells slots : Nat} :
    W p l e R s m args below meth c H locs cells slots (MQ below (pQc G rv L) args s cells slots (pA G)) (F0 m en.1 ls (st.map (pSh G))) := by
  obtain ⟨hd, -⟩ := pok_of hok hlt
  obtain ⟨hx, hb, hml, hown, hini, hts0, hK, h0, hlk, hret, hfr, hlcl⟩ := F
  unfold pRet at h
  split at h
  · rename_i h1
    rw [h1] at hd
    split at h
    · rename_i hi
      rw [hi] at hd
      split at h
      · rename_i x ty hrt
        split at h
        · rename_i hn
          cases h
          rw [hrt] at hret
          exact W.zret (v := x) hx hb hret hn (fun t ht _ => ⟨rfl, by rw [ht]; exact hH⟩) hlo hd
        · cases h
      · cases h
    · rename_i hi
      rw [hi] at hd
      split at h
      · rename_i x hrt
        cases h
        rw [hrt] at hret
        exact W.lret (v := x) hx hb hret (fun t ht _ => ⟨rfl, by rw [ht]; exact hH⟩) hlo hd
      · cases h
    · rename_i hi
      rw [hi] at hd
      split at h
      · rename_i hrt
        cases h
        rw [hrt] at hret
        exact W.vret hx hb hret (fun t ht _ => ⟨rfl, by rw [ht]; exact hH⟩) hlo hd
      · cases h
    · cases h
  · cases h
theorem ps_loop {M : pMe} {L0 : pHp} (F : pFx G M p R s m args meth c L0) {tab : List pEn} (htab : ∀ en ∈ tab, pOkE M.1 M.2.2.1 en = true) {d : Nat}
    (hcall : ∀ K as L rv Lf, pEx d K as L rv Lf → K < pMs.length → Met l (pMy K) (pWM (pMt K)) (pRm d (Lf.length - L.length) (pSz Lf - pSz L)) (pPc G as L) (pQc G rv Lf) (Lf.length - L.length) (pSz Lf - pSz L) (pA G))
    (hRf : d + 1 ≤ R.frames) (hRl : 200 * (d + 1) ≤ R.locals) {rv : Option Value} {Lf : pHp} (hRc : Lf.length - L0.length ≤ R.cells) (hRs : pSz Lf - pSz L0 ≤ R.slots) :
    ∀ (n pc : Nat) (lv : pLv) (st : List Value) (L : pHp) (H : Heap) (locs : List Loc) (cells slots : Nat) (ls : Array Slot), pLoop (pEx d) M tab n pc lv st L rv Lf → pH G L H → (∀ q ∈ locs, pB G ≤ q.base) → lv_has ls M.2.2.2.1 (pLm G lv) → L0.length ≤ L.length → pSz L0 ≤ pSz L → cells = L.length - L0.length → slots = pSz L - pSz L0 →
      W p l e R s m args below meth c H locs cells slots (MQ below (pQc G rv Lf) args s (Lf.length - L0.length) (pSz Lf - pSz L0) (pA G)) (F0 m pc ls (st.map (pSh G))) := by
  intro n
  induction n with
  | zero => intro pc lv st L H locs cells slots ls h; exact h.elim
  | succ n ih =>
    intro pc lv st L H locs cells slots ls h hH hlo hl hn hs hcells hslots
    obtain ⟨en, hen, rfl, hlt, h⟩ := h
    have hok := htab en hen
    rcases h with ⟨h1, rfl⟩ | ⟨t, h1, h2⟩ | ⟨⟨K, as, rest⟩, r1, L1, h1, h2, h3⟩
    · subst hcells; subst hslots
      exact ps_ret F hok hlt h1 hH hlo
    · have m1 := pstep_mono h1
      have m2 := ploop_mono (pex_mono d) _ _ _ _ _ _ _ h2
      exact ps_step F hok hlt h1 hH hlo hl hn hs hcells hslots (by omega) (by omega) (fun H' locs' cells' slots' ls' a1 a2 a3 a4 a5 => ih _ _ _ _ _ _ _ _ _ h2 a1 a2 a3 (by omega) (by omega) a4 a5)
    · have m1 := pex_mono d _ _ _ _ _ h2
      have m2 := ploop_mono (pex_mono d) _ _ _ _ _ _ _ h3
      exact ps_arg F hok hlt h1 (hcall K as L r1 L1 h2 (parg_lt h1)) hRf hRl hH hlo hl (by omega) (by omega) (fun H1 locs1 a1 a2 => ih _ _ _ _ _ _ _ _ _ h3 a1 a2 hl (by omega) (by omega) (by omega) (by omega))
end SND3
theorem plg_len {G : pG} (hV : pV1 G) (vs : List Value) : (lg_sl (vs.map (pSh G))).length = (lg_sl vs).length := by
  induction vs with
  | nil => rfl
  | cons v vs ih =>
    simp only [lg_sl, List.map_cons, List.flatMap_cons, List.length_append] at ih ⊢
    rw [ih, psh_cat hV]
    by_cases h : v.category = 2
    · simp [h]
    · simp [h]
theorem pSound (l : Launch) (G : pG) (hT : ∀ K, K < pMs.length → ∀ en ∈ pTs.getD K [], pOkE (pMt K).1 (pMt K).2.2.1 en = true) : ∀ (d K : Nat) (as : List Value) (L : pHp) (rv : Option Value) (Lf : pHp), pEx d K as L rv Lf → K < pMs.length →
    Met l (pMy K) (pWM (pMt K)) (pRm d (Lf.length - L.length) (pSz Lf - pSz L)) (pPc G as L) (pQc G rv Lf) (Lf.length - L.length) (pSz Lf - pSz L) (pA G) := by
  intro d
  induction d with
  | zero => intro K as L rv Lf h; exact h.elim
  | succ d ih =>
    intro K as L rv Lf h hK
    obtain ⟨hlen, n, h⟩ := h
    have hmem := pMt_mem hK
    obtain ⟨m1, m2, m3, m4, m5, m6, m7⟩ := pMok_of hmem
    refine va_MetF (cc := (pMt K).2.2.1) (maxL := (pMt K).2.2.2.1) (ret := (pMt K).2.2.2.2.1) m2 rfl ?_
    intro p e s m args below meth c s₁ B hml hv
    obtain ⟨rfl, hH, hKk⟩ := hv
    have hV : pV1 G := hKk.2.2.2.2.1
    have hown : s.vm.findClass (pMy K).cls = some m.cls := findClass_of_methodNamed B.named
    have hnm : meth.name = (pMy K).name := (name_of_methodNamed B.named B.method).1
    have F : pFx G (pMt K) p (headSpec (pWM (pMt K)) (pRm (d + 1) (Lf.length - L.length) (pSz Lf - pSz L))).room s m (as.map (pSh G)).toArray meth c L :=
      ⟨B.exec, B.bytes, hml, by rw [← m1]; exact hown, fun h => hnm.trans h, atoms_spec (ws := pWM (pMt K)) B.pre, hKk, hH, B.notSynchronized, B.returns, Nat.le_add_left 1 d, by show 200 ≤ 200 * (d + 1); omega⟩
    have hl := lv_entry (as.map (pSh G)) (n := (pMt K).2.2.2.1) (by rw [plg_len hV]; exact hlen)
    rw [pargs_map hV] at hl
    rw [lg_entry_eq]
    exact ps_loop F (hT K hK) ih (Nat.le_refl _) (Nat.le_refl _) (Nat.le_refl _) (Nat.le_refl _) n 0 _ [] L s.heap [] 0 0 _ h hH (fun q hq => nomatch hq) hl (Nat.le_refl _) (Nat.le_refl _) (by omega) (by omega)
end
section
/-! MEMORY BY NUMBERS: what lies at a place of a cell, as a whole number; the layout of the cells never changes behind the constructors. -/
abbrev sM : Type := Nat → Nat → Int
abbrev sV : Type := Nat × Int
/-- 0 an int, 1 a long, 2 a reference (the cell's number), else what lies outside -/
def sE (v : sV) : Value := match v.1 with
  | 0 => .int (Int32.ofInt v.2)
  | 1 => .long (Int64.ofInt v.2)
  | 2 => .ref v.2.toNat
  | _ => .float (UInt32.ofNat v.2.toNat)
/-- the kinds of places: 0 an int, 1 a long, 2 always the same reference, 3 a reference -/
def sC (q : Nat × Nat) (i : Int) : sV := match q.1 with
  | 0 => (0, i)
  | 1 => (1, i)
  | 2 => (2, q.2)
  | _ => (2, i)
abbrev sCl : Type := Nat × List (Nat × Nat)
def sCell (M : sM) (o : Nat) (c : sCl) : pOb := (c.1, c.2.mapIdx (fun k q => sE (sC q (M o k))))
def sHp (lay : List sCl) (M : sM) : pHp := lay.mapIdx (fun o c => sCell M o c)
def sU (M : sM) (o k : Nat) (v : Int) : sM := fun o' k' => if o' = o ∧ k' = k then v else M o' k'
theorem sU_at (M : sM) (o k : Nat) (v : Int) : sU M o k v o k = v := if_pos ⟨rfl, rfl⟩
theorem sU_ne {M : sM} {o k o' k' : Nat} {v : Int} (h : ¬ (o' = o ∧ k' = k)) : sU M o k v o' k' = M o' k' := if_neg h
theorem shp_len (lay : List sCl) (M : sM) : (sHp lay M).length = lay.length := List.length_mapIdx
theorem shp_at {lay : List sCl} {M : sM} {o : Nat} {c : sCl} (h : lay[o]? = some c) : (sHp lay M)[o]? = some (sCell M o c) := by
  unfold sHp
  rw [List.getElem?_mapIdx, h]
  rfl
theorem shj_at {lay : List sCl} {M : sM} {J : pHp} {o : Nat} {c : sCl} (h : lay[o]? = some c) : (sHp lay M ++ J)[o]? = some (sCell M o c) := by
  have hl : o < (sHp lay M).length := by rw [shp_len]; exact (List.getElem?_eq_some_iff.mp h).1
  rw [List.getElem?_append_left hl]
  exact shp_at h
theorem scell_at {M : sM} {o k : Nat} {c : sCl} {q : Nat × Nat} (h : c.2[k]? = some q) : (sCell M o c).2[k]? = some (sE (sC q (M o k))) := by
  show (c.2.mapIdx _)[k]? = _
  rw [List.getElem?_mapIdx, h]
  rfl
theorem scell_len {M : sM} {o : Nat} {c : sCl} : (sCell M o c).2.length = c.2.length := List.length_mapIdx
/-- a place is written -/
theorem scell_set {M : sM} {o k : Nat} {c : sCl} {q : Nat × Nat} {v : Int} (h : c.2[k]? = some q) : ((sCell M o c).1, (sCell M o c).2.set k (sE (sC q v))) = sCell (sU M o k v) o c := by
  unfold sCell
  refine Prod.ext rfl ?_
  refine List.ext_getElem? fun j => ?_
  rw [List.getElem?_mapIdx]
  by_cases hj : j = k
  · subst hj
    have hl : j < (c.2.mapIdx (fun k q => sE (sC q (M o k)))).length := by rw [List.length_mapIdx]; exact (List.getElem?_eq_some_iff.mp h).1
    rw [List.getElem?_set_self hl, h]
    show _ = some (sE (sC q (sU M o j v o j)))
    rw [sU_at]
  · rw [List.getElem?_set_ne (Ne.symm hj), List.getElem?_mapIdx]
    cases c.2[j]? with
    | none => rfl
    | some q' =>
      show some _ = some (sE (sC q' (sU M o k v o j)))
      rw [sU_ne (fun z => hj z.2)]
theorem scell_ne {M : sM} {o k o' : Nat} {c : sCl} {v : Int} (h : o' ≠ o) : sCell (sU M o k v) o' c = sCell M o' c := by
  unfold sCell
  refine Prod.ext rfl ?_
  refine List.ext_getElem? fun j => ?_
  rw [List.getElem?_mapIdx, List.getElem?_mapIdx]
  cases c.2[j]? with
  | none => rfl
  | some q' =>
    show some (sE (sC q' (sU M o k v o' j))) = some _
    rw [sU_ne (fun z => h z.1)]
theorem shj_set {lay : List sCl} {M : sM} {J : pHp} {o k : Nat} {c : sCl} {q : Nat × Nat} {v : Int} (h : lay[o]? = some c) (hk : c.2[k]? = some q) : (sHp lay M ++ J).set o ((sCell M o c).1, (sCell M o c).2.set k (sE (sC q v))) = sHp lay (sU M o k v) ++ J := by
  have hl : o < (sHp lay M).length := by rw [shp_len]; exact (List.getElem?_eq_some_iff.mp h).1
  rw [List.set_append_left _ _ hl, scell_set hk]
  congr 1
  refine List.ext_getElem? fun j => ?_
  by_cases hj : j = o
  · subst hj
    rw [List.getElem?_set_self hl, shp_at h]
  · rw [List.getElem?_set_ne (Ne.symm hj)]
    unfold sHp
    rw [List.getElem?_mapIdx, List.getElem?_mapIdx]
    cases lay[j]? with
    | none => rfl
    | some c' =>
      show some (sCell M j c') = some (sCell (sU M o k v) j c')
      rw [scell_ne hj]
end
section
/-! RUNS OVER MEMORY BY NUMBERS. -/
abbrev sLv : Type := List (Nat × sV)
def sL (lv : sLv) : pLv := lv.map (fun q => (q.1, sE q.2))
def sGet : sLv → Nat → Option sV
  | [], _ => none
  | q :: l, i => if q.1 = i then some q.2 else sGet l i
def sPut1 (lv : sLv) (i : Nat) (v : sV) : sLv := (i, v) :: lv.filter (fun q => !(q.1 == i) && !(q.1 + 1 == i && q.2.1 == 1))
def sPut2 (lv : sLv) (i : Nat) (v : sV) : sLv := (i, v) :: lv.filter (fun q => !(q.1 == i) && (!(q.1 == i + 1) && !(q.1 + 1 == i && q.2.1 == 1)))
theorem se_cat (v : sV) : ((sE v).category == 2) = (v.1 == 1) := by
  obtain ⟨t, i⟩ := v
  match t with
  | 0 => rfl
  | 1 => rfl
  | 2 => rfl
  | n + 3 => rfl
theorem sl_get (lv : sLv) (k : Nat) : pGet (sL lv) k = (sGet lv k).map sE := by
  induction lv with
  | nil => rfl
  | cons q l ih =>
    show (if q.1 = k then some (sE q.2) else pGet (sL l) k) = (if q.1 = k then some q.2 else sGet l k).map sE
    by_cases h : q.1 = k
    · rw [if_pos h, if_pos h]; rfl
    · rw [if_neg h, if_neg h]; exact ih
theorem sl_put1 (lv : sLv) (i : Nat) (v : sV) : pPut1 (sL lv) i (sE v) = sL (sPut1 lv i v) := by
  unfold pPut1 sPut1 sL
  rw [List.map_cons, List.filter_map]
  congr 2
  refine List.filter_congr fun q _ => ?_
  show (!(q.1 == i) && !(q.1 + 1 == i && (sE q.2).category == 2)) = _
  rw [se_cat]
theorem sl_put2 (lv : sLv) (i : Nat) (v : sV) : pPut2 (sL lv) i (sE v) = sL (sPut2 lv i v) := by
  unfold pPut2 sPut2 sL
  rw [List.map_cons, List.filter_map]
  congr 2
  refine List.filter_congr fun q _ => ?_
  show (!(q.1 == i) && (!(q.1 == i + 1) && !(q.1 + 1 == i && (sE q.2).category == 2))) = _
  rw [se_cat]
def sR (lay : List sCl) (d K : Nat) (J : pHp) (pc : Nat) (lv : sLv) (st : List sV) (M : sM) (Q : Option sV → sM → Prop) : Prop :=
  ∃ (n : Nat) (rv : Option sV) (M' : sM), pLoop (pEx d) (pMt K) (pTs.getD K []) n pc (sL lv) (st.map sE) (sHp lay M ++ J) (rv.map sE) (sHp lay M' ++ J) ∧ Q rv M'
def sX (lay : List sCl) (d K : Nat) (J : pHp) (as : List sV) (M : sM) (Q : Option sV → sM → Prop) : Prop :=
  ∃ (rv : Option sV) (M' : sM), pEx d K (as.map sE) (sHp lay M ++ J) (rv.map sE) (sHp lay M' ++ J) ∧ Q rv M'
def inR (x : Int) : Prop := -2147483648 ≤ x ∧ x ≤ 2147483647
theorem inR_to {x : Int} (h : inR x) : (Int32.ofInt x).toInt = x := Int32.toInt_ofInt_of_le (by have := h.1; omega) (by have := h.2; omega)
theorem inR_lt {x y : Int} (hx : inR x) (hy : inR y) : Int32.ofInt x < Int32.ofInt y ↔ x < y := by rw [Int32.lt_iff_toInt_lt, inR_to hx, inR_to hy]
theorem inR_le {x y : Int} (hx : inR x) (hy : inR y) : Int32.ofInt x ≤ Int32.ofInt y ↔ x ≤ y := by rw [Int32.le_iff_toInt_le, inR_to hx, inR_to hy]
theorem inR_eq {x y : Int} (hx : inR x) (hy : inR y) : Int32.ofInt x = Int32.ofInt y ↔ x = y := by rw [← Int32.toInt_inj, inR_to hx, inR_to hy]
theorem inR_clamp {x : Int} (hx : inR x) : (Int32.ofInt x).toNatClampNeg = x.toNat := by
  show (Int32.ofInt x).toInt.toNat = _
  rw [inR_to hx]
def sCmp (c : Jvm.ClassFile.Cond) (x y : Int) : Prop := match c with
  | .eq => x = y
  | .ne => ¬ x = y
  | .lt => x < y
  | .ge => y ≤ x
  | .gt => y < x
  | .le => x ≤ y
theorem scmp_iff {c : Jvm.ClassFile.Cond} {x y : Int} (hx : inR x) (hy : inR y) : pCmp c (Int32.ofInt x) (Int32.ofInt y) = true ↔ sCmp c x y := by
  cases c <;> simp only [pCmp, sCmp, decide_eq_true_eq]
  · exact inR_eq hx hy
  · exact not_congr (inR_eq hx hy)
  · exact inR_lt hx hy
  · exact inR_le hy hx
  · exact inR_lt hy hx
  · exact inR_le hx hy
section SR
variable {lay : List sCl} {d K : Nat} {J : pHp} {pc a : Nat} {lv : sLv} {st : List sV} {M : sM} {Q : Option sV → sM → Prop}
theorem sr_stp {e : pEn} (he : e ∈ pTs.getD K []) (ha : e.2.2.2 < 99999) (hp : e.1 = pc) {pc' : Nat} {lv' : sLv} {st' : List sV} {M' : sM} (h : pStp (pMt K) e (sL lv) (st.map sE) (sHp lay M ++ J) (pc', sL lv', st'.map sE, sHp lay M' ++ J)) (k : sR lay d K J pc' lv' st' M' Q) : sR lay d K J pc lv st M Q := by
  obtain ⟨n, rv, M2, h1, h2⟩ := k
  exact ⟨n + 1, rv, M2, ⟨e, he, hp, ha, Or.inr (Or.inl ⟨_, h, h1⟩)⟩, h2⟩
theorem sr_stk {i : Instr} {n : Nat} {st' : List sV} (he : (pc, i, n, a) ∈ pTs.getD K []) (ha : a < 99999) (h : pStk i (st.map sE) = some (n, st'.map sE)) (k : sR lay d K J (pc + n) lv st' M Q) : sR lay d K J pc lv st M Q := sr_stp he ha rfl (Or.inl ⟨_, h, rfl⟩) k
theorem sr_iconst {c : Int} (he : (pc, .iconst c, 1, a) ∈ pTs.getD K []) (ha : a < 99999) (k : sR lay d K J (pc + 1) lv ((0, c) :: st) M Q) : sR lay d K J pc lv st M Q := sr_stk he ha rfl k
theorem sr_bipush {c : Int} (he : (pc, .bipush c, 2, a) ∈ pTs.getD K []) (ha : a < 99999) (hc : (Int8.ofInt c).toInt32 = Int32.ofInt c) (k : sR lay d K J (pc + 2) lv ((0, c) :: st) M Q) : sR lay d K J pc lv st M Q :=
  sr_stk (st' := (0, c) :: st) he ha (by show some (2, Value.int _ :: _) = _; rw [hc]; rfl) k
theorem sr_sipush {c : Int} (he : (pc, .sipush c, 3, a) ∈ pTs.getD K []) (ha : a < 99999) (hc : (Int16.ofInt c).toInt32 = Int32.ofInt c) (k : sR lay d K J (pc + 3) lv ((0, c) :: st) M Q) : sR lay d K J pc lv st M Q :=
  sr_stk (st' := (0, c) :: st) he ha (by show some (3, Value.int _ :: _) = _; rw [hc]; rfl) k
theorem sr_iadd {x y : Int} (he : (pc, .iadd, 1, a) ∈ pTs.getD K []) (ha : a < 99999) (k : sR lay d K J (pc + 1) lv ((0, x + y) :: st) M Q) : sR lay d K J pc lv ((0, y) :: (0, x) :: st) M Q :=
  sr_stk (st' := (0, x + y) :: st) he ha (by show some (1, Value.int (Int32.ofInt x + Int32.ofInt y) :: _) = _; rw [← Int32.ofInt_add]; rfl) k
theorem sr_isub {x y : Int} (he : (pc, .isub, 1, a) ∈ pTs.getD K []) (ha : a < 99999) (k : sR lay d K J (pc + 1) lv ((0, x - y) :: st) M Q) : sR lay d K J pc lv ((0, y) :: (0, x) :: st) M Q :=
  sr_stk (st' := (0, x - y) :: st) he ha (by show some (1, Value.int (Int32.ofInt x - Int32.ofInt y) :: _) = _; rw [← Int32.ofInt_sub]; rfl) k
theorem sr_imul {x y : Int} (he : (pc, .imul, 1, a) ∈ pTs.getD K []) (ha : a < 99999) (k : sR lay d K J (pc + 1) lv ((0, x * y) :: st) M Q) : sR lay d K J pc lv ((0, y) :: (0, x) :: st) M Q :=
  sr_stk (st' := (0, x * y) :: st) he ha (by show some (1, Value.int (Int32.ofInt x * Int32.ofInt y) :: _) = _; rw [← Int32.ofInt_mul]; rfl) k
theorem sr_ineg {x : Int} (he : (pc, .ineg, 1, a) ∈ pTs.getD K []) (ha : a < 99999) (k : sR lay d K J (pc + 1) lv ((0, -x) :: st) M Q) : sR lay d K J pc lv ((0, x) :: st) M Q :=
  sr_stk (st' := (0, -x) :: st) he ha (by show some (1, Value.int (-Int32.ofInt x) :: _) = _; rw [← Int32.ofInt_neg]; rfl) k
theorem sr_iload_n {n : Fin 4} {i : Nat} {x : Int} (he : (pc, .iload_n n, 1, a) ∈ pTs.getD K []) (ha : a < 99999) (hi : (n : Nat) = i) (hg : sGet lv i = some (0, x)) (k : sR lay d K J (pc + 1) lv ((0, x) :: st) M Q) : sR lay d K J pc lv st M Q := by
  subst hi
  refine sr_stp (lv' := lv) (st' := (0, x) :: st) he ha rfl (Or.inr (Or.inl ⟨sL lv, ((0, x) :: st).map sE, ?_, rfl⟩)) k
  show (match pGet (sL lv) n with | some v => if pInt false v = true then some (1, sL lv, v :: st.map sE) else none | none => none) = _
  rw [sl_get, hg]
  rfl
theorem sr_iload {i : Nat} {x : Int} (he : (pc, .iload i, 2, a) ∈ pTs.getD K []) (ha : a < 99999) (hg : sGet lv i = some (0, x)) (k : sR lay d K J (pc + 2) lv ((0, x) :: st) M Q) : sR lay d K J pc lv st M Q := by
  refine sr_stp (lv' := lv) (st' := (0, x) :: st) he ha rfl (Or.inr (Or.inl ⟨sL lv, ((0, x) :: st).map sE, ?_, rfl⟩)) k
  show (match pGet (sL lv) i with | some v => if pInt false v = true then some (2, sL lv, v :: st.map sE) else none | none => none) = _
  rw [sl_get, hg]
  rfl
theorem sr_aload_n {n : Fin 4} {i : Nat} {x : Int} (he : (pc, .aload_n n, 1, a) ∈ pTs.getD K []) (ha : a < 99999) (hi : (n : Nat) = i) (hg : sGet lv i = some (2, x)) (k : sR lay d K J (pc + 1) lv ((2, x) :: st) M Q) : sR lay d K J pc lv st M Q := by
  subst hi
  refine sr_stp (lv' := lv) (st' := (2, x) :: st) he ha rfl (Or.inr (Or.inl ⟨sL lv, ((2, x) :: st).map sE, ?_, rfl⟩)) k
  show (match pGet (sL lv) n with | some v => if pRef v = true then some (1, sL lv, v :: st.map sE) else none | none => none) = _
  rw [sl_get, hg]
  rfl
theorem sr_aload {i : Nat} {x : Int} (he : (pc, .aload i, 2, a) ∈ pTs.getD K []) (ha : a < 99999) (hg : sGet lv i = some (2, x)) (k : sR lay d K J (pc + 2) lv ((2, x) :: st) M Q) : sR lay d K J pc lv st M Q := by
  refine sr_stp (lv' := lv) (st' := (2, x) :: st) he ha rfl (Or.inr (Or.inl ⟨sL lv, ((2, x) :: st).map sE, ?_, rfl⟩)) k
  show (match pGet (sL lv) i with | some v => if pRef v = true then some (2, sL lv, v :: st.map sE) else none | none => none) = _
  rw [sl_get, hg]
  rfl
theorem sr_istore_n {n : Fin 4} {i : Nat} {x : Int} {lv' : sLv} (he : (pc, .istore_n n, 1, a) ∈ pTs.getD K []) (ha : a < 99999) (hi : (n : Nat) = i) (hm : i < (pMt K).2.2.2.1) (hl : sPut1 lv i (0, x) = lv') (k : sR lay d K J (pc + 1) lv' st M Q) : sR lay d K J pc lv ((0, x) :: st) M Q := by
  subst hi; subst hl
  refine sr_stp (lv' := sPut1 lv n (0, x)) (st' := st) he ha rfl (Or.inr (Or.inl ⟨_, _, ?_, rfl⟩)) k
  show (if pInt false (sE (0, x)) = true ∧ (n : Nat) < (pMt K).2.2.2.1 then some (1, pPut1 (sL lv) n (sE (0, x)), st.map sE) else none) = _
  rw [if_pos ⟨rfl, hm⟩, sl_put1]
theorem sr_istore {i : Nat} {x : Int} {lv' : sLv} (he : (pc, .istore i, 2, a) ∈ pTs.getD K []) (ha : a < 99999) (hm : i < (pMt K).2.2.2.1) (hl : sPut1 lv i (0, x) = lv') (k : sR lay d K J (pc + 2) lv' st M Q) : sR lay d K J pc lv ((0, x) :: st) M Q := by
  subst hl
  refine sr_stp (lv' := sPut1 lv i (0, x)) (st' := st) he ha rfl (Or.inr (Or.inl ⟨_, _, ?_, rfl⟩)) k
  show (if pInt false (sE (0, x)) = true ∧ i < (pMt K).2.2.2.1 then some (2, pPut1 (sL lv) i (sE (0, x)), st.map sE) else none) = _
  rw [if_pos ⟨rfl, hm⟩, sl_put1]
theorem sr_iinc {i : Nat} {n x : Int} {lv' : sLv} (he : (pc, .iinc i n, 3, a) ∈ pTs.getD K []) (ha : a < 99999) (hm : i < (pMt K).2.2.2.1) (hg : sGet lv i = some (0, x)) (hl : sPut1 lv i (0, x + n) = lv') (k : sR lay d K J (pc + 3) lv' st M Q) : sR lay d K J pc lv st M Q := by
  subst hl
  refine sr_stp (lv' := sPut1 lv i (0, x + n)) (st' := st) he ha rfl (Or.inr (Or.inl ⟨_, _, ?_, rfl⟩)) k
  show (match pGet (sL lv) i with | some (.int x) => if i < (pMt K).2.2.2.1 then some (3, pPut1 (sL lv) i (.int (x + Int32.ofInt n)), st.map sE) else none | _ => none) = _
  rw [sl_get, hg]
  show (if i < (pMt K).2.2.2.1 then some (3, pPut1 (sL lv) i (.int (Int32.ofInt x + Int32.ofInt n)), st.map sE) else none) = _
  rw [if_pos hm, ← Int32.ofInt_add, ← sl_put1]
  rfl
theorem sr_goto {off : Int} {tgt : Nat} (he : (pc, .goto off, 3, a) ∈ pTs.getD K []) (ha : a < 99999) (ht : (pc : Int) + off = tgt) (k : sR lay d K J tgt lv st M Q) : sR lay d K J pc lv st M Q := by
  refine sr_stp (lv' := lv) (st' := st) he ha rfl (Or.inr (Or.inr (Or.inl ⟨tgt, st.map sE, ?_, rfl⟩))) k
  show (if (3 : Nat) = 3 then (pTo pc off).map (fun t => (t, st.map sE)) else none) = _
  rw [if_pos rfl]
  unfold pTo
  rw [ht, if_pos (Int.natCast_nonneg _)]
  rfl
theorem sr_icmp {c : Jvm.ClassFile.Cond} {off x y : Int} {tgt : Nat} (he : (pc, .if_icmp c off, 3, a) ∈ pTs.getD K []) (ha : a < 99999) (ht : (pc : Int) + off = tgt) (hx : inR x) (hy : inR y) (kt : sCmp c x y → sR lay d K J tgt lv st M Q) (kf : ¬ sCmp c x y → sR lay d K J (pc + 3) lv st M Q) : sR lay d K J pc lv ((0, y) :: (0, x) :: st) M Q := by
  have h : ∀ t : Nat, (if pCmp c (Int32.ofInt x) (Int32.ofInt y) = true then tgt else pc + 3) = t → pJmp (.if_icmp c off) pc 3 (((0, y) :: (0, x) :: st : List sV).map sE) = some (t, st.map sE) := by
    intro t h
    show (if (3 : Nat) = 3 then (pTo pc off).map (fun t => (if pCmp c (Int32.ofInt x) (Int32.ofInt y) = true then t else pc + 3, st.map sE)) else none) = _
    rw [if_pos rfl]
    unfold pTo
    rw [ht, if_pos (Int.natCast_nonneg _)]
    show some (if pCmp c (Int32.ofInt x) (Int32.ofInt y) = true then tgt else pc + 3, st.map sE) = _
    rw [h]
  by_cases hc : sCmp c x y
  · exact sr_stp (lv' := lv) (st' := st) he ha rfl (Or.inr (Or.inr (Or.inl ⟨tgt, st.map sE, h _ (if_pos ((scmp_iff hx hy).mpr hc)), rfl⟩))) (kt hc)
  · exact sr_stp (lv' := lv) (st' := st) he ha rfl (Or.inr (Or.inr (Or.inl ⟨pc + 3, st.map sE, h _ (if_neg (fun z => hc ((scmp_iff hx hy).mp z))), rfl⟩))) (kf hc)
theorem inR_0 : inR 0 := ⟨by decide, by decide⟩
theorem sr_if {c : Jvm.ClassFile.Cond} {off x : Int} {tgt : Nat} (he : (pc, .ifCond c off, 3, a) ∈ pTs.getD K []) (ha : a < 99999) (ht : (pc : Int) + off = tgt) (hx : inR x) (kt : sCmp c x 0 → sR lay d K J tgt lv st M Q) (kf : ¬ sCmp c x 0 → sR lay d K J (pc + 3) lv st M Q) : sR lay d K J pc lv ((0, x) :: st) M Q := by
  have h : ∀ t : Nat, (if pCmp c (Int32.ofInt x) 0 = true then tgt else pc + 3) = t → pJmp (.ifCond c off) pc 3 (((0, x) :: st : List sV).map sE) = some (t, st.map sE) := by
    intro t h
    show (if (3 : Nat) = 3 then (pTo pc off).map (fun t => (if pCmp c (Int32.ofInt x) 0 = true then t else pc + 3, st.map sE)) else none) = _
    rw [if_pos rfl]
    unfold pTo
    rw [ht, if_pos (Int.natCast_nonneg _)]
    show some (if pCmp c (Int32.ofInt x) 0 = true then tgt else pc + 3, st.map sE) = _
    rw [h]
  by_cases hc : sCmp c x 0
  · exact sr_stp (lv' := lv) (st' := st) he ha rfl (Or.inr (Or.inr (Or.inl ⟨tgt, st.map sE, h _ (if_pos ((scmp_iff hx inR_0).mpr hc)), rfl⟩))) (kt hc)
  · exact sr_stp (lv' := lv) (st' := st) he ha rfl (Or.inr (Or.inr (Or.inl ⟨pc + 3, st.map sE, h _ (if_neg (fun z => hc ((scmp_iff hx inR_0).mp z))), rfl⟩))) (kf hc)
/-- a field is read -/
theorem sr_get {ix o : Nat} {c : sCl} {q : Nat × Nat} {v : sV} (he : (pc, .getfield ix, 3, a) ∈ pTs.getD K []) (ha : a < 99999) (hl : lay[o]? = some c) (hc : c.1 = a / 100 ∧ c.1 < 13 ∧ a % 100 < pN c.1) (hq : c.2[a % 100]? = some q) (hv : sC q (M o (a % 100)) = v) (k : sR lay d K J (pc + 3) lv (v :: st) M Q) : sR lay d K J pc lv ((2, (o : Int)) :: st) M Q := by
  subst hv
  refine sr_stp (lv' := lv) (st' := sC q (M o (a % 100)) :: st) (M' := M) he ha rfl (Or.inr (Or.inr (Or.inr (Or.inr ⟨_, _, ?_, rfl⟩)))) k
  show (match (sHp lay M ++ J)[o]? with
    | some q => if q.1 = a / 100 ∧ q.1 < 13 ∧ a % 100 < pN q.1 then (q.2[a % 100]?).map (fun v => (3, v :: st.map sE, sHp lay M ++ J)) else none
    | none => none) = _
  rw [shj_at hl]
  show (if c.1 = a / 100 ∧ c.1 < 13 ∧ a % 100 < pN c.1 then ((sCell M o c).2[a % 100]?).map (fun v => (3, v :: st.map sE, sHp lay M ++ J)) else none) = _
  rw [if_pos hc, scell_at hq]
  rfl
/-- a field is written -/
theorem sr_put {ix o : Nat} {c : sCl} {q : Nat × Nat} {v : sV} {i : Int} (he : (pc, .putfield ix, 3, a) ∈ pTs.getD K []) (ha : a < 99999) (hl : lay[o]? = some c) (hc : c.1 = a / 100 ∧ c.1 < 13) (hq : c.2[a % 100]? = some q) (hv : sC q i = v) (hf : pFit false (pMt K).1 ((pMt K).2.1.name == "<init>") c.1 (a % 100) (sE v) = true) (k : sR lay d K J (pc + 3) lv st (sU M o (a % 100) i) Q) : sR lay d K J pc lv (v :: (2, (o : Int)) :: st) M Q := by
  subst hv
  refine sr_stp (lv' := lv) (st' := st) (M' := sU M o (a % 100) i) he ha rfl (Or.inr (Or.inr (Or.inr (Or.inr ⟨_, _, ?_, rfl⟩)))) k
  show (match (sHp lay M ++ J)[o]? with
    | some q' => if q'.1 = a / 100 ∧ q'.1 < 13 ∧ a % 100 < q'.2.length ∧ pFit false (pMt K).1 ((pMt K).2.1.name == "<init>") q'.1 (a % 100) (sE (sC q i)) = true then some (3, st.map sE, (sHp lay M ++ J).set o (q'.1, q'.2.set (a % 100) (sE (sC q i)))) else none
    | none => none) = _
  rw [shj_at hl]
  have hlen : a % 100 < (sCell M o c).2.length := by rw [scell_len]; exact (List.getElem?_eq_some_iff.mp hq).1
  show (if c.1 = a / 100 ∧ c.1 < 13 ∧ a % 100 < (sCell M o c).2.length ∧ pFit false (pMt K).1 ((pMt K).2.1.name == "<init>") c.1 (a % 100) (sE (sC q i)) = true then some (3, st.map sE, (sHp lay M ++ J).set o ((sCell M o c).1, (sCell M o c).2.set (a % 100) (sE (sC q i)))) else none) = _
  rw [if_pos ⟨hc.1, hc.2, hlen, hf⟩, shj_set hl hq]
theorem six_of {x : Int} {n : Nat} (h0 : 0 ≤ x) (h1 : x < n) (hn : n ≤ 4096) : pIx (Int32.ofInt x) n = some x.toNat := by
  have hx : inR x := ⟨by omega, by omega⟩
  unfold pIx
  rw [if_neg, inR_clamp hx]
  rintro (h | h)
  · have h2 := (inR_lt hx inR_0).mp h
    omega
  · rw [inR_clamp hx] at h
    omega
/-- an int array is read -/
theorem sr_iald {o n : Nat} {x : Int} {v : Int} (he : (pc, .iaload, 1, a) ∈ pTs.getD K []) (ha : a < 99999) (hl : lay[o]? = some (20, List.replicate n (0, 0))) (h0 : 0 ≤ x) (h1 : x < n) (hn : n ≤ 4096) (hv : M o x.toNat = v) (k : sR lay d K J (pc + 1) lv ((0, v) :: st) M Q) : sR lay d K J pc lv ((0, x) :: (2, (o : Int)) :: st) M Q := by
  subst hv
  refine sr_stp (lv' := lv) (st' := (0, M o x.toNat) :: st) (M' := M) he ha rfl (Or.inr (Or.inr (Or.inr (Or.inr ⟨_, _, ?_, rfl⟩)))) k
  show (match (sHp lay M ++ J)[o]? with
    | some q => if q.1 = 20 then (pLd q.2 (Int32.ofInt x)).map (fun v => (1, v :: st.map sE, sHp lay M ++ J)) else none
    | none => none) = _
  rw [shj_at hl]
  show (if (20 : Nat) = 20 then (pLd (sCell M o (20, List.replicate n (0, 0))).2 (Int32.ofInt x)).map (fun v => (1, v :: st.map sE, sHp lay M ++ J)) else none) = _
  rw [if_pos rfl]
  unfold pLd
  rw [scell_len, List.length_replicate, six_of h0 h1 hn]
  show Option.map _ ((sCell M o (20, List.replicate n (0, 0))).2[x.toNat]?) = _
  rw [scell_at (q := (0, 0)) (by rw [List.getElem?_replicate, if_pos (by omega)])]
  rfl
/-- an int array is written -/
theorem sr_iast {o n : Nat} {x y : Int} (he : (pc, .iastore, 1, a) ∈ pTs.getD K []) (ha : a < 99999) (hl : lay[o]? = some (20, List.replicate n (0, 0))) (h0 : 0 ≤ x) (h1 : x < n) (hn : n ≤ 4096) (k : sR lay d K J (pc + 1) lv st (sU M o x.toNat y) Q) : sR lay d K J pc lv ((0, y) :: (0, x) :: (2, (o : Int)) :: st) M Q := by
  refine sr_stp (lv' := lv) (st' := st) (M' := sU M o x.toNat y) he ha rfl (Or.inr (Or.inr (Or.inr (Or.inr ⟨_, _, ?_, rfl⟩)))) k
  show (match (sHp lay M ++ J)[o]? with
    | some q => if q.1 = 20 ∧ pInt false (sE (0, y)) = true then (pIx (Int32.ofInt x) q.2.length).map (fun j => (1, st.map sE, (sHp lay M ++ J).set o (q.1, q.2.set j (sE (0, y))))) else none
    | none => none) = _
  rw [shj_at hl]
  show (if (20 : Nat) = 20 ∧ pInt false (sE (0, y)) = true then (pIx (Int32.ofInt x) (sCell M o (20, List.replicate n (0, 0))).2.length).map (fun j => (1, st.map sE, (sHp lay M ++ J).set o ((sCell M o (20, List.replicate n (0, 0))).1, (sCell M o (20, List.replicate n (0, 0))).2.set j (sE (0, y))))) else none) = _
  rw [if_pos ⟨rfl, rfl⟩, scell_len, List.length_replicate, six_of h0 h1 hn]
  have h9 := shj_set (lay := lay) (M := M) (J := J) (k := x.toNat) (q := (0, 0)) (v := y) hl (by rw [List.getElem?_replicate, if_pos (by omega)])
  show some (1, st.map sE, (sHp lay M ++ J).set o ((sCell M o (20, List.replicate n (0, 0))).1, (sCell M o (20, List.replicate n (0, 0))).2.set x.toNat (sE (0, y)))) = _
  rw [← h9]
  rfl
/-- a method's end -/
theorem sr_iret {x : Int} {ty : FieldType} (he : (pc, .ireturn, 1, a) ∈ pTs.getD K []) (ha : a < 99999) (hr : (pMt K).2.2.2.2.1 = some ty) (hn : narrow ty (.int (Int32.ofInt x)) = .int (Int32.ofInt x)) (hq : Q (some (0, x)) M) : sR lay d K J pc lv [(0, x)] M Q := by
  refine ⟨1, some (0, x), M, ⟨_, he, rfl, ha, Or.inl ⟨?_, rfl⟩⟩, hq⟩
  unfold pRet
  rw [hr]
  show (if (1 : Nat) = 1 then (if narrow ty (.int (Int32.ofInt x)) = .int (Int32.ofInt x) then some (some (Value.int (Int32.ofInt x))) else none) else none) = _
  rw [if_pos rfl, if_pos hn]
  rfl
theorem sr_vret (he : (pc, .return_, 1, a) ∈ pTs.getD K []) (ha : a < 99999) (hr : (pMt K).2.2.2.2.1 = none) (hq : Q none M) : sR lay d K J pc lv [] M Q := by
  refine ⟨1, none, M, ⟨_, he, rfl, ha, Or.inl ⟨?_, rfl⟩⟩, hq⟩
  unfold pRet
  rw [hr]
  rfl
/-- a call -/
theorem sr_call {i : Instr} {n K2 : Nat} {as rest : List sV} (he : (pc, i, 3, a) ∈ pTs.getD K []) (ha : a < 99999) (harg : pArg (pc, i, 3, a) (st.map sE) (sHp lay M ++ J) = some (K2, as.map sE, rest.map sE)) (hx : sX lay d K2 J as M (fun rv M' => sR lay d K J (pc + 3) lv (rv.toList ++ rest) M' Q)) : sR lay d K J pc lv st M Q := by
  obtain ⟨rv, M', h1, n, rv2, M2, h2, h3⟩ := hx
  refine ⟨n + 1, rv2, M2, ⟨_, he, rfl, ha, Or.inr (Or.inr ⟨_, _, _, harg, h1, ?_⟩)⟩, h3⟩
  rw [List.map_append] at h2
  cases rv with
  | none => exact h2
  | some v => exact h2
end SR
end
section
/-! CALLS OUT OF THEIR BODIES; the stack. -/
def sArgs : Nat → List sV → sLv
  | _, [] => []
  | i, v :: vs => (i, v) :: sArgs (i + (if v.1 = 1 then 2 else 1)) vs
theorem se_cat2 (v : sV) : (sE v).category = if v.1 = 1 then 2 else 1 := by
  obtain ⟨t, i⟩ := v
  match t with
  | 0 => rfl
  | 1 => rfl
  | 2 => rfl
  | n + 3 => rfl
theorem sl_args : ∀ (as : List sV) (i : Nat), lv_args i (as.map sE) = sL (sArgs i as)
  | [], _ => rfl
  | v :: vs, i => by
    rw [List.map_cons, lv_args, se_cat2, sl_args vs]
    by_cases h : v.1 = 1
    · rw [if_pos h, if_pos rfl]
      show _ = (i, sE v) :: sL (sArgs (i + (if v.1 = 1 then 2 else 1)) vs)
      rw [if_pos h]
    · rw [if_neg h, if_neg (by decide)]
      show _ = (i, sE v) :: sL (sArgs (i + (if v.1 = 1 then 2 else 1)) vs)
      rw [if_neg h]
section SR2
variable {lay : List sCl} {d K : Nat} {J : pHp} {pc a : Nat} {lv : sLv} {st : List sV} {M : sM} {Q : Option sV → sM → Prop}
theorem sx_of {as : List sV} (hlen : (lg_sl (as.map sE)).length ≤ (pMt K).2.2.2.1) (h : sR lay d K J 0 (sArgs 0 as) [] M Q) : sX lay (d + 1) K J as M Q := by
  obtain ⟨n, rv, M', h1, h2⟩ := h
  refine ⟨rv, M', ⟨hlen, n, ?_⟩, h2⟩
  rw [sl_args]
  exact h1
theorem sx_mono {as : List sV} {Q' : Option sV → sM → Prop} (h : sX lay d K J as M Q) (hq : ∀ rv M', Q rv M' → Q' rv M') : sX lay d K J as M Q' := by
  obtain ⟨rv, M', h1, h2⟩ := h
  exact ⟨rv, M', h1, hq _ _ h2⟩
theorem sr_dupi {x : Int} (he : (pc, .dup, 1, a) ∈ pTs.getD K []) (ha : a < 99999) (k : sR lay d K J (pc + 1) lv ((0, x) :: (0, x) :: st) M Q) : sR lay d K J pc lv ((0, x) :: st) M Q := sr_stk (st' := (0, x) :: (0, x) :: st) he ha rfl k
theorem sr_dupr {x : Int} (he : (pc, .dup, 1, a) ∈ pTs.getD K []) (ha : a < 99999) (k : sR lay d K J (pc + 1) lv ((2, x) :: (2, x) :: st) M Q) : sR lay d K J pc lv ((2, x) :: st) M Q := sr_stk (st' := (2, x) :: (2, x) :: st) he ha rfl k
theorem sr_popi {x : Int} (he : (pc, .pop, 1, a) ∈ pTs.getD K []) (ha : a < 99999) (k : sR lay d K J (pc + 1) lv st M Q) : sR lay d K J pc lv ((0, x) :: st) M Q := sr_stk (st' := st) he ha rfl k
end SR2
end
section
/-! MORE RULES: what an instruction pushes without saying more of it than is needed; locals that are not looked at again. -/
theorem i32_of (z : Int32) : Int32.ofInt z.toInt = z := Int32.ofInt_toInt z
theorem i64_of (z : Int64) : Int64.ofInt z.toInt = z := Int64.ofInt_toInt z
theorem i32_rng (z : Int32) : inR z.toInt := ⟨Int32.minValue_le_toInt z, by have := Int32.toInt_le z; exact this⟩
def inL (x : Int) : Prop := -9223372036854775808 ≤ x ∧ x ≤ 9223372036854775807
theorem inL_to {x : Int} (h : inL x) : (Int64.ofInt x).toInt = x := Int64.toInt_ofInt_of_le (by have := h.1; omega) (by have := h.2; omega)
theorem i64_rng (z : Int64) : inL z.toInt := ⟨Int64.minValue_le_toInt z, by have := Int64.toInt_le z; exact this⟩
def lvR (lv lv' : pLv) : Prop := ∀ q ∈ lv, pGet lv' q.1 = some q.2
theorem zget_mem : ∀ {lv : pLv} {k : Nat} {v : Value}, pGet lv k = some v → (k, v) ∈ lv
  | [], _, _, h => nomatch h
  | q :: l, k, v, h => by
    unfold pGet at h
    by_cases hq : q.1 = k
    · rw [if_pos hq] at h
      cases h
      subst hq
      exact List.mem_cons_self
    · rw [if_neg hq] at h
      exact List.mem_cons_of_mem _ (zget_mem h)
theorem lvr_get {lv lv' : pLv} (h : lvR lv lv') {k : Nat} {v : Value} (hg : pGet lv k = some v) : pGet lv' k = some v := h _ (zget_mem hg)
theorem zget_filter : ∀ {lv : pLv} {k : Nat} {v : Value} {p : Nat × Value → Bool}, pGet lv k = some v → p (k, v) = true → pGet (lv.filter p) k = some v
  | [], _, _, _, h, _ => nomatch h
  | q :: l, k, v, p, h, hp => by
    unfold pGet at h
    by_cases hq : q.1 = k
    · rw [if_pos hq] at h
      cases h
      subst hq
      rw [List.filter_cons_of_pos (by exact hp)]
      unfold pGet
      rw [if_pos rfl]
    · rw [if_neg hq] at h
      have ih := zget_filter (p := p) h hp
      by_cases hpq : p q = true
      · rw [List.filter_cons_of_pos hpq]
        unfold pGet
        rw [if_neg hq]
        exact ih
      · rw [List.filter_cons_of_neg hpq]
        exact ih
theorem lvr_cons {lv lv' : pLv} {i : Nat} {v : Value} {p : Nat × Value → Bool} (h : lvR lv lv') (hp : ∀ q : Nat × Value, p q = true → q.1 ≠ i) : lvR ((i, v) :: lv.filter p) ((i, v) :: lv'.filter p) := by
  intro q hq
  rcases List.mem_cons.mp hq with rfl | hq
  · unfold pGet
    rw [if_pos rfl]
  · have h1 := List.mem_filter.mp hq
    unfold pGet
    rw [if_neg (fun z => hp q h1.2 z.symm)]
    exact zget_filter (h q h1.1) h1.2
theorem lvr_put1 {lv lv' : pLv} {i : Nat} {v : Value} (h : lvR lv lv') : lvR (pPut1 lv i v) (pPut1 lv' i v) := lvr_cons h (fun q hq z => by
  rw [Bool.and_eq_true, Bool.not_eq_true', beq_eq_false_iff_ne] at hq
  exact hq.1 z)
theorem lvr_put2 {lv lv' : pLv} {i : Nat} {v : Value} (h : lvR lv lv') : lvR (pPut2 lv i v) (pPut2 lv' i v) := lvr_cons h (fun q hq z => by
  rw [Bool.and_eq_true, Bool.not_eq_true', beq_eq_false_iff_ne] at hq
  exact hq.1 z)
theorem zloc_mono {mx : Nat} {i : Instr} {lv lv' : pLv} {st : List Value} {n : Nat} {lv1 : pLv} {st1 : List Value} (hr : lvR lv lv') (h : pLoc false mx i lv st = some (n, lv1, st1)) : ∃ lv2, pLoc false mx i lv' st = some (n, lv2, st1) ∧ lvR lv1 lv2 := by
  unfold pLoc at h ⊢
  split at h
  · split at h
    · rename_i v hg
      split at h
      · rename_i hc
        cases h
        exact ⟨lv', by rw [lvr_get hr hg]; exact if_pos hc, hr⟩
      · cases h
    · cases h
  · split at h
    · rename_i v hg
      split at h
      · rename_i hc
        cases h
        exact ⟨lv', by rw [lvr_get hr hg]; exact if_pos hc, hr⟩
      · cases h
    · cases h
  · split at h
    · rename_i x hg
      cases h
      exact ⟨lv', by rw [lvr_get hr hg], hr⟩
    · cases h
  · split at h
    · rename_i x hg
      cases h
      exact ⟨lv', by rw [lvr_get hr hg], hr⟩
    · cases h
  · split at h
    · rename_i v hg
      split at h
      · rename_i hc
        cases h
        exact ⟨lv', by rw [lvr_get hr hg]; exact if_pos hc, hr⟩
      · cases h
    · cases h
  · split at h
    · rename_i v hg
      split at h
      · rename_i hc
        cases h
        exact ⟨lv', by rw [lvr_get hr hg]; exact if_pos hc, hr⟩
      · cases h
    · cases h
  · split at h
    · split at h
      · rename_i hc
        cases h
        exact ⟨_, if_pos hc, lvr_put1 hr⟩
      · cases h
    · cases h
  · split at h
    · split at h
      · rename_i hc
        cases h
        exact ⟨_, if_pos hc, lvr_put1 hr⟩
      · cases h
    · cases h
  · split at h
    · split at h
      · rename_i hc
        cases h
        exact ⟨_, if_pos hc, lvr_put2 hr⟩
      · cases h
    · cases h
  · split at h
    · split at h
      · rename_i hc
        cases h
        exact ⟨_, if_pos hc, lvr_put2 hr⟩
      · cases h
    · cases h
  · split at h
    · split at h
      · rename_i hc
        cases h
        exact ⟨_, if_pos hc, lvr_put1 hr⟩
      · cases h
    · cases h
  · split at h
    · split at h
      · rename_i hc
        cases h
        exact ⟨_, if_pos hc, lvr_put1 hr⟩
      · cases h
    · cases h
  · split at h
    · rename_i x hg
      split at h
      · rename_i hc
        cases h
        exact ⟨_, by rw [lvr_get hr hg]; exact if_pos hc, lvr_put1 hr⟩
      · cases h
    · cases h
  · cases h
theorem zloop_mono {call : pCl} {M : pMe} {tab : List pEn} : ∀ (n pc : Nat) (lv lv' : pLv) (st : List Value) (L : pHp) (rv : Option Value) (Lf : pHp), lvR lv lv' → pLoop call M tab n pc lv st L rv Lf → pLoop call M tab n pc lv' st L rv Lf := by
  intro n
  induction n with
  | zero => intro _ _ _ _ _ _ _ _ h; exact h.elim
  | succ n ih =>
    intro pc lv lv' st L rv Lf hr h
    obtain ⟨e, he, hp, ha, h⟩ := h
    refine ⟨e, he, hp, ha, ?_⟩
    rcases h with h | ⟨t, hs, h⟩ | ⟨q, r1, L1, hq, hc, h⟩
    · exact Or.inl h
    · refine Or.inr (Or.inl ?_)
      rcases hs with ⟨st', h1, rfl⟩ | ⟨lv1, st', h1, rfl⟩ | ⟨pc', st', h1, rfl⟩ | ⟨st', h1, rfl⟩ | ⟨st', L', h1, rfl⟩
      · exact ⟨(_, lv', _, _), Or.inl ⟨_, h1, rfl⟩, ih _ _ _ _ _ _ _ hr h⟩
      · obtain ⟨lv2, h2, h3⟩ := zloc_mono hr h1
        exact ⟨(_, lv2, _, _), Or.inr (Or.inl ⟨_, _, h2, rfl⟩), ih _ _ _ _ _ _ _ h3 h⟩
      · exact ⟨(_, lv', _, _), Or.inr (Or.inr (Or.inl ⟨_, _, h1, rfl⟩)), ih _ _ _ _ _ _ _ hr h⟩
      · exact ⟨(_, lv', _, _), Or.inr (Or.inr (Or.inr (Or.inl ⟨_, h1, rfl⟩))), ih _ _ _ _ _ _ _ hr h⟩
      · exact ⟨(_, lv', _, _), Or.inr (Or.inr (Or.inr (Or.inr ⟨_, _, h1, rfl⟩))), ih _ _ _ _ _ _ _ hr h⟩
    · exact Or.inr (Or.inr ⟨q, r1, L1, hq, hc, ih _ _ _ _ _ _ _ hr h⟩)
section SR3
variable {lay : List sCl} {d K : Nat} {J : pHp} {pc a : Nat} {lv : sLv} {st : List sV} {M : sM} {Q : Option sV → sM → Prop}
theorem sr_mono {lv' : sLv} (h : ∀ q ∈ lv, sGet lv' q.1 = some q.2) (k : sR lay d K J pc lv st M Q) : sR lay d K J pc lv' st M Q := by
  obtain ⟨n, rv, M', h1, h2⟩ := k
  refine ⟨n, rv, M', zloop_mono _ _ _ _ _ _ _ _ ?_ h1, h2⟩
  intro q hq
  obtain ⟨q', hq', rfl⟩ := List.mem_map.mp hq
  show pGet (sL lv') q'.1 = _
  rw [sl_get, h q' hq']
  rfl
end SR3
end
section
/-! FORMS: a number as a sum of multiples of unknown ones; unknown 0 is always 1. Facts are forms that are not below 0; a fact is shown by a sum of multiples of others. -/
abbrev qF : Type := List (Int × Nat)
def qD (ρ : Nat → Int) : qF → Int
  | [] => 0
  | q :: f => q.1 * ρ q.2 + qD ρ f
def qIns (c : Int) (a : Nat) : qF → qF
  | [] => cond (c == 0) [] [(c, a)]
  | q :: f => cond (Nat.beq q.2 a) (cond (c + q.1 == 0) f ((c + q.1, a) :: f)) (cond (Nat.blt a q.2) (cond (c == 0) (q :: f) ((c, a) :: q :: f)) (q :: qIns c a f))
def qAdd (f g : qF) : qF := f.foldr (fun q r => qIns q.1 q.2 r) g
def qScl (c : Int) (f : qF) : qF := f.map (fun q => (c * q.1, q.2))
def qSub (f g : qF) : qF := qAdd (qScl (-1) g) f
def qCn (c : Int) : qF := cond (c == 0) [] [(c, 0)]
def qKo : qF → Option Int
  | [] => some 0
  | [q] => cond (Nat.beq q.2 0) (some q.1) none
  | _ => none
theorem qd_ins (ρ : Nat → Int) (c : Int) (a : Nat) : ∀ f : qF, qD ρ (qIns c a f) = c * ρ a + qD ρ f
  | [] => by
    unfold qIns
    cases h : (c == 0) with
    | true =>
      have : c = 0 := by simpa using h
      subst this
      show (0 : Int) = 0 * ρ a + 0
      omega
    | false => rfl
  | q :: f => by
    unfold qIns
    cases h : Nat.beq q.2 a with
    | true =>
      have h1 : q.2 = a := Nat.eq_of_beq_eq_true h
      subst h1
      cases h2 : (c + q.1 == 0) with
      | true =>
        have h3 : c + q.1 = 0 := by simpa using h2
        show qD ρ f = c * ρ q.2 + (q.1 * ρ q.2 + qD ρ f)
        rw [← Int.add_assoc, ← Int.add_mul, h3]
        omega
      | false =>
        show (c + q.1) * ρ q.2 + qD ρ f = c * ρ q.2 + (q.1 * ρ q.2 + qD ρ f)
        rw [Int.add_mul]
        omega
    | false =>
      cases h1 : Nat.blt a q.2 with
      | true =>
        cases h2 : (c == 0) with
        | true =>
          have : c = 0 := by simpa using h2
          subst this
          show q.1 * ρ q.2 + qD ρ f = 0 * ρ a + (q.1 * ρ q.2 + qD ρ f)
          omega
        | false => rfl
      | false =>
        show q.1 * ρ q.2 + qD ρ (qIns c a f) = c * ρ a + (q.1 * ρ q.2 + qD ρ f)
        rw [qd_ins ρ c a f]
        omega
theorem qd_add (ρ : Nat → Int) (g : qF) : ∀ f : qF, qD ρ (qAdd f g) = qD ρ f + qD ρ g
  | [] => by show qD ρ g = 0 + qD ρ g; omega
  | q :: f => by
    show qD ρ (qIns q.1 q.2 (qAdd f g)) = q.1 * ρ q.2 + qD ρ f + qD ρ g
    rw [qd_ins, qd_add ρ g f]
    omega
theorem qd_scl (ρ : Nat → Int) (c : Int) : ∀ f : qF, qD ρ (qScl c f) = c * qD ρ f
  | [] => by show (0 : Int) = c * 0; omega
  | q :: f => by
    show c * q.1 * ρ q.2 + qD ρ (qScl c f) = c * (q.1 * ρ q.2 + qD ρ f)
    rw [qd_scl ρ c f, Int.mul_add, Int.mul_assoc]
theorem qd_sub (ρ : Nat → Int) (f g : qF) : qD ρ (qSub f g) = qD ρ f - qD ρ g := by
  unfold qSub
  rw [qd_add, qd_scl]
  omega
theorem qd_cn {ρ : Nat → Int} (h0 : ρ 0 = 1) (c : Int) : qD ρ (qCn c) = c := by
  unfold qCn
  cases h : (c == 0) with
  | true =>
    have : c = 0 := by simpa using h
    subst this
    rfl
  | false =>
    show c * ρ 0 + 0 = c
    rw [h0]
    omega
theorem qd_ko {ρ : Nat → Int} (h0 : ρ 0 = 1) {f : qF} {c : Int} (h : qKo f = some c) : qD ρ f = c := by
  match f, h with
  | [], h => cases h; rfl
  | [q], h =>
    have h : cond (Nat.beq q.2 0) (some q.1) none = some c := h
    cases h1 : Nat.beq q.2 0 with
    | true =>
      rw [h1] at h
      have h2 : q.2 = 0 := Nat.eq_of_beq_eq_true h1
      cases h
      show q.1 * ρ q.2 + 0 = q.1
      rw [h2, h0]
      omega
    | false => rw [h1] at h; cases h
def zNg : Int → Bool
  | .ofNat _ => false
  | .negSucc _ => true
theorem zng_f : ∀ {c : Int}, zNg c = false → 0 ≤ c
  | .ofNat n, _ => Int.natCast_nonneg n
  | .negSucc _, h => nomatch h
def qCmb (fs : List qF) : qF → Option qF
  | [] => some []
  | q :: c => match fs[q.2]?, qCmb fs c with
    | some f, some r => cond (zNg q.1) none (some (qAdd (qScl q.1 f) r))
    | _, _ => none
def qEnt (fs : List qF) (goal c : qF) : Bool := match qCmb fs c with
  | some s => match qKo (qSub goal s) with
    | some k => !(zNg k)
    | none => false
  | none => false
theorem qd_cmb {ρ : Nat → Int} {fs : List qF} (hf : ∀ f ∈ fs, 0 ≤ qD ρ f) : ∀ {c s : qF}, qCmb fs c = some s → 0 ≤ qD ρ s
  | [], s, h => by cases h; exact Int.le_refl 0
  | q :: c, s, h => by
    unfold qCmb at h
    split at h
    · rename_i f r h1 h2
      cases h3 : zNg q.1 with
      | true => rw [h3] at h; cases h
      | false =>
        rw [h3] at h
        cases h
        rw [qd_add, qd_scl]
        have h4 : 0 ≤ q.1 := zng_f h3
        have h5 := hf f (List.mem_of_getElem? h1)
        have h6 := qd_cmb hf h2
        have h7 := Int.mul_nonneg h4 h5
        omega
    · cases h
theorem qd_ent {ρ : Nat → Int} (h0 : ρ 0 = 1) {fs : List qF} (hf : ∀ f ∈ fs, 0 ≤ qD ρ f) {goal c : qF} (h : qEnt fs goal c = true) : 0 ≤ qD ρ goal := by
  unfold qEnt at h
  split at h
  · rename_i s hs
    split at h
    · rename_i k hk
      have h1 := qd_ko h0 hk
      rw [qd_sub] at h1
      have h2 := qd_cmb hf hs
      have h3 : 0 ≤ k := zng_f (by simpa using h)
      omega
    · cases h
  · cases h
def qSc (n : Nat) (f : qF) : Bool := f.all (fun q => Nat.blt q.2 n)
theorem qd_sc {ρ ρ' : Nat → Int} {n : Nat} (hr : ∀ a, a < n → ρ' a = ρ a) : ∀ {f : qF}, qSc n f = true → qD ρ' f = qD ρ f
  | [], _ => rfl
  | q :: f, h => by
    unfold qSc at h
    rw [List.all_cons, Bool.and_eq_true] at h
    have h1 : q.2 < n := Nat.le_of_ble_eq_true h.1
    show q.1 * ρ' q.2 + qD ρ' f = q.1 * ρ q.2 + qD ρ f
    rw [hr _ h1, qd_sc hr (f := f) h.2]
def qSb (σ : Nat → qF) (f : qF) : qF := f.foldr (fun q r => qAdd (qScl q.1 (σ q.2)) r) []
theorem qd_sb (ρ : Nat → Int) (σ : Nat → qF) : ∀ f : qF, qD ρ (qSb σ f) = qD (fun a => qD ρ (σ a)) f
  | [] => rfl
  | q :: f => by
    show qD ρ (qAdd (qScl q.1 (σ q.2)) (qSb σ f)) = q.1 * qD ρ (σ q.2) + qD (fun a => qD ρ (σ a)) f
    rw [qd_add, qd_scl, qd_sb ρ σ f]
/-! STATES. -/
abbrev qV : Type := Nat × qF
abbrev qLv : Type := List (Nat × qV)
abbrev qMm : Type := List (Nat × Nat × qF)
/-- a place of a cell: its number, or from 1000 on the number that a name has -/
def zIx (ρ : Nat → Int) (k : Nat) : Nat := cond (Nat.blt k 1000) k (ρ (k - 1000)).toNat
def qSk (n k : Nat) : Bool := Nat.blt k 1000 || Nat.blt (k - 1000) n
theorem zix_lt {ρ : Nat → Int} {k : Nat} (h : k < 1000) : zIx ρ k = k := by
  unfold zIx
  rw [show Nat.blt k 1000 = true from Nat.ble_eq_true_of_le h]; rfl
theorem zix_b {ρ : Nat → Int} {k : Nat} (h : Nat.blt k 1000 = true) : zIx ρ k = k := by unfold zIx; rw [h]; rfl
theorem zix_sc {ρ ρ' : Nat → Int} {n : Nat} (hr : ∀ a, a < n → ρ' a = ρ a) {k : Nat} (h : qSk n k = true) : zIx ρ' k = zIx ρ k := by
  unfold zIx
  cases hk : Nat.blt k 1000 with
  | true => rfl
  | false =>
    unfold qSk at h
    rw [hk, Bool.false_or] at h
    show (ρ' (k - 1000)).toNat = (ρ (k - 1000)).toNat
    rw [hr _ (Nat.le_of_ble_eq_true h)]
def qDV (ρ : Nat → Int) (v : qV) : sV := (v.1, qD ρ v.2)
def qDL (ρ : Nat → Int) (lv : qLv) : sLv := lv.map (fun q => (q.1, qDV ρ q.2))
def qDS (ρ : Nat → Int) (st : List qV) : List sV := st.map (qDV ρ)
def qGet : qLv → Nat → Option qV
  | [], _ => none
  | q :: l, i => cond (Nat.beq q.1 i) (some q.2) (qGet l i)
def qPut1 (lv : qLv) (i : Nat) (v : qV) : qLv := (i, v) :: lv.filter (fun q => !(q.1 == i) && !(q.1 + 1 == i && q.2.1 == 1))
def qPut2 (lv : qLv) (i : Nat) (v : qV) : qLv := (i, v) :: lv.filter (fun q => !(q.1 == i) && (!(q.1 == i + 1) && !(q.1 + 1 == i && q.2.1 == 1)))
theorem ql_get (ρ : Nat → Int) (i : Nat) : ∀ lv : qLv, sGet (qDL ρ lv) i = (qGet lv i).map (qDV ρ)
  | [] => rfl
  | q :: l => by
    show (if q.1 = i then some (qDV ρ q.2) else sGet (qDL ρ l) i) = (cond (Nat.beq q.1 i) (some q.2) (qGet l i)).map (qDV ρ)
    cases h : Nat.beq q.1 i with
    | true => rw [if_pos (Nat.eq_of_beq_eq_true h)]; rfl
    | false => rw [if_neg (Nat.ne_of_beq_eq_false h), ql_get ρ i l]; rfl
theorem ql_put1 (ρ : Nat → Int) (lv : qLv) (i : Nat) (v : qV) : sPut1 (qDL ρ lv) i (qDV ρ v) = qDL ρ (qPut1 lv i v) := by
  unfold sPut1 qPut1 qDL
  rw [List.map_cons, List.filter_map]
  rfl
theorem ql_put2 (ρ : Nat → Int) (lv : qLv) (i : Nat) (v : qV) : sPut2 (qDL ρ lv) i (qDV ρ v) = qDL ρ (qPut2 lv i v) := by
  unfold sPut2 qPut2 qDL
  rw [List.map_cons, List.filter_map]
  rfl
theorem ql_get' {ρ : Nat → Int} {lv : qLv} {i : Nat} {v : qV} (h : qGet lv i = some v) : sGet (qDL ρ lv) i = some (qDV ρ v) := by rw [ql_get, h]; rfl
def qScV (n : Nat) (v : qV) : Bool := qSc n v.2
def qScA (g n : Nat) (lv : qLv) (st : List qV) (fs : List qF) (mm : qMm) : Bool := Nat.ble g n && (lv.all (fun q => qSc n q.2.2) && (st.all (fun v => qSc n v.2) && (fs.all (qSc n) && mm.all (fun q => qSk n q.2.1 && qSc n q.2.2))))
theorem qdl_sc {ρ ρ' : Nat → Int} {n : Nat} (hr : ∀ a, a < n → ρ' a = ρ a) {lv : qLv} (h : lv.all (fun q => qSc n q.2.2) = true) : qDL ρ' lv = qDL ρ lv := by
  unfold qDL
  refine List.map_congr_left fun q hq => ?_
  have := List.all_eq_true.mp h q hq
  unfold qDV
  rw [qd_sc hr this]
theorem qds_sc {ρ ρ' : Nat → Int} {n : Nat} (hr : ∀ a, a < n → ρ' a = ρ a) {st : List qV} (h : st.all (fun v => qSc n v.2) = true) : qDS ρ' st = qDS ρ st := by
  unfold qDS
  refine List.map_congr_left fun q hq => ?_
  have := List.all_eq_true.mp h q hq
  unfold qDV
  rw [qd_sc hr this]
end
section
/-! THE LAYOUT of the heap behind the constructors (wip/p2/lay.py), and ranges of its places. -/
def sLay : List sCl := [(11, [(2, 1), (0, 0), (0, 0), (0, 0), (2, 54), (3, 0), (3, 0), (2, 58), (2, 63), (2, 68), (2, 72), (2, 77), (2, 84), (2, 86), (2, 88), (0, 0), (0, 0), (2, 90), (0, 0)]),
  (21, List.replicate 700 (0, 0)),
  (8, [(2, 3), (2, 4), (2, 5), (2, 6), (2, 7), (2, 8), (2, 9), (2, 11), (0, 0), (0, 0), (0, 0), (0, 0), (0, 0), (0, 0), (0, 0), (0, 0), (0, 0), (0, 0)]),
  (24, [(2, 13), (2, 14), (2, 15), (2, 16), (2, 17), (2, 18), (2, 19), (2, 20), (2, 21)]),
  (25, [(2, 22), (2, 23), (2, 24), (2, 25), (2, 26), (2, 27)]),
  (20, List.replicate 3 (0, 0)),
  (20, List.replicate 3 (0, 0)),
  (20, List.replicate 3 (0, 0)),
  (20, List.replicate 24 (0, 0)),
  (5, [(2, 10), (0, 0)]),
  (20, List.replicate 64 (0, 0)),
  (5, [(2, 12), (0, 0)]),
  (20, List.replicate 64 (0, 0)),
  (1, List.replicate 6 (0, 0)),
  (1, List.replicate 6 (0, 0)),
  (1, List.replicate 6 (0, 0)),
  (1, List.replicate 6 (0, 0)),
  (1, List.replicate 6 (0, 0)),
  (1, List.replicate 6 (0, 0)),
  (1, List.replicate 6 (0, 0)),
  (1, List.replicate 6 (0, 0)),
  (1, List.replicate 6 (0, 0)),
  (4, List.replicate 4 (0, 0)),
  (4, List.replicate 4 (0, 0)),
  (4, List.replicate 4 (0, 0)),
  (4, List.replicate 4 (0, 0)),
  (4, List.replicate 4 (0, 0)),
  (4, List.replicate 4 (0, 0)),
  (8, [(2, 29), (2, 30), (2, 31), (2, 32), (2, 33), (2, 34), (2, 35), (2, 37), (0, 0), (0, 0), (0, 0), (0, 0), (0, 0), (0, 0), (0, 0), (0, 0), (0, 0), (0, 0)]),
  (24, [(2, 39), (2, 40), (2, 41), (2, 42), (2, 43), (2, 44), (2, 45), (2, 46), (2, 47)]),
  (25, [(2, 48), (2, 49), (2, 50), (2, 51), (2, 52), (2, 53)]),
  (20, List.replicate 3 (0, 0)),
  (20, List.replicate 3 (0, 0)),
  (20, List.replicate 3 (0, 0)),
  (20, List.replicate 24 (0, 0)),
  (5, [(2, 36), (0, 0)]),
  (20, List.replicate 64 (0, 0)),
  (5, [(2, 38), (0, 0)]),
  (20, List.replicate 64 (0, 0)),
  (1, List.replicate 6 (0, 0)),
  (1, List.replicate 6 (0, 0)),
  (1, List.replicate 6 (0, 0)),
  (1, List.replicate 6 (0, 0)),
  (1, List.replicate 6 (0, 0)),
  (1, List.replicate 6 (0, 0)),
  (1, List.replicate 6 (0, 0)),
  (1, List.replicate 6 (0, 0)),
  (1, List.replicate 6 (0, 0)),
  (4, List.replicate 4 (0, 0)),
  (4, List.replicate 4 (0, 0)),
  (4, List.replicate 4 (0, 0)),
  (4, List.replicate 4 (0, 0)),
  (4, List.replicate 4 (0, 0)),
  (4, List.replicate 4 (0, 0)),
  (7, [(2, 56), (2, 55), (0, 0), (0, 0), (3, 0), (0, 0), (0, 0), (0, 0), (0, 0), (0, 0), (0, 0)]),
  (20, List.replicate 72 (0, 0)),
  (10, [(2, 1), (2, 57), (0, 0), (0, 0), (0, 0), (0, 0), (0, 0)]),
  (20, List.replicate 24 (0, 0)),
  (3, [(2, 59), (2, 60), (2, 61), (2, 62), (3, 0), (0, 0), (0, 0), (0, 0)]),
  (20, List.replicate 648 (0, 0)),
  (20, List.replicate 216 (0, 0)),
  (23, List.replicate 6 (1, 0)),
  (23, List.replicate 64 (1, 0)),
  (3, [(2, 64), (2, 65), (2, 66), (2, 67), (3, 0), (0, 0), (0, 0), (0, 0)]),
  (20, List.replicate 648 (0, 0)),
  (20, List.replicate 216 (0, 0)),
  (23, List.replicate 6 (1, 0)),
  (23, List.replicate 64 (1, 0)),
  (6, [(2, 69), (2, 70), (2, 71), (3, 0), (0, 0), (0, 0), (0, 0), (0, 0), (0, 0)]),
  (20, List.replicate 64 (0, 0)),
  (20, List.replicate 64 (0, 0)),
  (20, List.replicate 64 (0, 0)),
  (0, [(2, 73), (2, 74), (2, 75), (2, 76)]),
  (20, List.replicate 90 (0, 0)),
  (20, List.replicate 9 (0, 0)),
  (20, List.replicate 9 (0, 0)),
  (20, List.replicate 9 (0, 0)),
  (9, [(2, 78), (2, 79), (2, 80), (2, 81), (2, 82), (2, 83), (0, 0), (0, 0)]),
  (20, List.replicate 24 (0, 0)),
  (20, List.replicate 24 (0, 0)),
  (20, List.replicate 24 (0, 0)),
  (20, List.replicate 24 (0, 0)),
  (22, List.replicate 24 (0, 0)),
  (20, List.replicate 24 (0, 0)),
  (2, [(2, 85), (0, 0), (0, 0), (0, 0), (0, 0), (0, 0), (0, 0), (1, 0)]),
  (20, List.replicate 9 (0, 0)),
  (2, [(2, 87), (0, 0), (0, 0), (0, 0), (0, 0), (0, 0), (0, 0), (1, 0)]),
  (20, List.replicate 9 (0, 0)),
  (2, [(2, 89), (0, 0), (0, 0), (0, 0), (0, 0), (0, 0), (0, 0), (1, 0)]),
  (20, List.replicate 9 (0, 0)),
  (20, List.replicate 100 (0, 0)),
  (12, [(0, 0), (2, 92), (0, 0), (2, 93), (2, 94), (2, 95), (2, 96), (2, 97), (2, 98), (2, 99), (2, 100), (2, 101), (2, 102), (2, 103), (2, 104), (2, 105), (2, 106), (2, 107), (2, 108), (2, 109), (2, 110), (2, 111), (0, 0), (0, 0), (0, 0), (0, 0), (0, 0), (0, 0), (0, 0), (0, 0), (0, 0), (0, 0), (0, 0), (0, 0), (0, 0), (0, 0), (0, 0), (2, 112), (2, 113), (2, 114), (2, 115), (2, 116), (2, 117), (2, 118), (2, 119), (0, 0), (0, 0), (2, 120), (2, 121), (0, 0), (0, 0), (2, 122), (2, 123), (0, 0), (0, 0), (0, 0), (0, 0), (0, 0), (0, 0), (2, 124), (0, 0), (0, 0), (0, 0), (2, 125), (2, 126), (2, 127), (2, 128), (2, 129), (2, 130), (0, 0), (0, 0), (0, 0), (0, 0), (0, 0), (0, 0), (0, 0)]),
  (20, List.replicate 700 (0, 0)),
  (20, List.replicate 18 (0, 0)),
  (20, List.replicate 18 (0, 0)),
  (20, List.replicate 18 (0, 0)),
  (22, List.replicate 18 (0, 0)),
  (20, List.replicate 18 (0, 0)),
  (20, List.replicate 18 (0, 0)),
  (20, List.replicate 18 (0, 0)),
  (20, List.replicate 12 (0, 0)),
  (20, List.replicate 12 (0, 0)),
  (20, List.replicate 12 (0, 0)),
  (20, List.replicate 12 (0, 0)),
  (20, List.replicate 6 (0, 0)),
  (20, List.replicate 6 (0, 0)),
  (20, List.replicate 6 (0, 0)),
  (20, List.replicate 48 (0, 0)),
  (20, List.replicate 4 (0, 0)),
  (20, List.replicate 4 (0, 0)),
  (20, List.replicate 128 (0, 0)),
  (20, List.replicate 128 (0, 0)),
  (20, List.replicate 23 (0, 0)),
  (20, List.replicate 23 (0, 0)),
  (20, List.replicate 23 (0, 0)),
  (20, List.replicate 23 (0, 0)),
  (20, List.replicate 23 (0, 0)),
  (20, List.replicate 23 (0, 0)),
  (20, List.replicate 23 (0, 0)),
  (20, List.replicate 207 (0, 0)),
  (23, List.replicate 6 (1, 0)),
  (23, List.replicate 64 (1, 0)),
  (20, List.replicate 648 (0, 0)),
  (20, List.replicate 216 (0, 0)),
  (20, List.replicate 90 (0, 0)),
  (20, List.replicate 24 (0, 0)),
  (20, List.replicate 24 (0, 0)),
  (20, List.replicate 24 (0, 0)),
  (20, List.replicate 24 (0, 0)),
  (20, List.replicate 24 (0, 0)),
  (22, List.replicate 24 (0, 0)),
  (23, [(1, 0)])]
def sRl : List (Nat × Nat × List (Option (Int × Int))) := [(19, 19, [none, some (0, 700), none, none, none, none, none, none, none, none, none, none, none, none, none, some (0, 1), some ((-1), 24), none, some (0, 20)]),
  (0, 1, []),
  (18, 18, [none, none, none, none, none, none, none, none, some (0, 9), some (0, 6), some (0, 3), none, none, none, none, none, some (0, 64), none]),
  (0, 1, []),
  (0, 1, []),
  (0, 1, []),
  (0, 1, []),
  (0, 1, []),
  (0, 1, []),
  (2, 2, [none, some (0, 64)]),
  (0, 1, []),
  (2, 2, [none, some (0, 64)]),
  (0, 1, []),
  (6, 6, [none, some (0, 99), some (0, 1), some ((-9), 9), some (0, 9), some (0, 99)]),
  (6, 6, [none, some (0, 99), some (0, 1), some ((-9), 9), some (0, 9), some (0, 99)]),
  (6, 6, [none, some (0, 99), some (0, 1), some ((-9), 9), some (0, 9), some (0, 99)]),
  (6, 6, [none, some (0, 99), some (0, 1), some ((-9), 9), some (0, 9), some (0, 99)]),
  (6, 6, [none, some (0, 99), some (0, 1), some ((-9), 9), some (0, 9), some (0, 99)]),
  (6, 6, [none, some (0, 99), some (0, 1), some ((-9), 9), some (0, 9), some (0, 99)]),
  (6, 6, [none, some (0, 99), some (0, 1), some ((-9), 9), some (0, 9), some (0, 99)]),
  (6, 6, [none, some (0, 99), some (0, 1), some ((-9), 9), some (0, 9), some (0, 99)]),
  (6, 6, [none, some (0, 99), some (0, 1), some ((-9), 9), some (0, 9), some (0, 99)]),
  (0, 1, []),
  (0, 1, []),
  (0, 1, []),
  (0, 1, []),
  (0, 1, []),
  (0, 1, []),
  (18, 18, [none, none, none, none, none, none, none, none, some (0, 9), some (0, 6), some (0, 3), none, none, none, none, none, some (0, 64), none]),
  (0, 1, []),
  (0, 1, []),
  (0, 1, []),
  (0, 1, []),
  (0, 1, []),
  (0, 1, []),
  (2, 2, [none, some (0, 64)]),
  (0, 1, []),
  (2, 2, [none, some (0, 64)]),
  (0, 1, []),
  (6, 6, [none, some (0, 99), some (0, 1), some ((-9), 9), some (0, 9), some (0, 99)]),
  (6, 6, [none, some (0, 99), some (0, 1), some ((-9), 9), some (0, 9), some (0, 99)]),
  (6, 6, [none, some (0, 99), some (0, 1), some ((-9), 9), some (0, 9), some (0, 99)]),
  (6, 6, [none, some (0, 99), some (0, 1), some ((-9), 9), some (0, 9), some (0, 99)]),
  (6, 6, [none, some (0, 99), some (0, 1), some ((-9), 9), some (0, 9), some (0, 99)]),
  (6, 6, [none, some (0, 99), some (0, 1), some ((-9), 9), some (0, 9), some (0, 99)]),
  (6, 6, [none, some (0, 99), some (0, 1), some ((-9), 9), some (0, 9), some (0, 99)]),
  (6, 6, [none, some (0, 99), some (0, 1), some ((-9), 9), some (0, 9), some (0, 99)]),
  (6, 6, [none, some (0, 99), some (0, 1), some ((-9), 9), some (0, 9), some (0, 99)]),
  (0, 1, []),
  (0, 1, []),
  (0, 1, []),
  (0, 1, []),
  (0, 1, []),
  (0, 1, []),
  (11, 11, [none, none, some (0, 72), some (0, 8), none, none, none, none, some ((-2147483648), 2147483647), none, none]),
  (72, 1, [some (0, 41)]),
  (7, 7, [none, none, some (0, 700), some (0, 700), some (1, 41), some ((-2147483648), 2147483647), none]),
  (0, 1, []),
  (8, 8, [none, none, none, none, none, some (0, 1), some (0, 1), none]),
  (0, 1, []),
  (0, 1, []),
  (0, 1, []),
  (0, 1, []),
  (8, 8, [none, none, none, none, none, some (0, 1), some (0, 1), none]),
  (0, 1, []),
  (0, 1, []),
  (0, 1, []),
  (0, 1, []),
  (9, 9, [none, none, none, none, some (0, 64), some (0, 64), none, none, none]),
  (0, 1, []),
  (0, 1, []),
  (0, 1, []),
  (0, 1, []),
  (0, 1, []),
  (0, 1, []),
  (0, 1, []),
  (0, 1, []),
  (8, 8, [none, none, none, none, none, none, some (0, 24), some ((-1), 24)]),
  (24, 1, [some (0, 8)]),
  (24, 1, [some (0, 23)]),
  (0, 1, []),
  (0, 1, []),
  (24, 1, [some (0, 1)]),
  (24, 1, [some ((-1), 23)]),
  (8, 8, [none, none, none, some (0, 9), some (0, 8), some (0, 23), none, none]),
  (0, 1, []),
  (8, 8, [none, none, none, some (0, 9), some (0, 8), some (0, 23), none, none]),
  (0, 1, []),
  (8, 8, [none, none, none, some (0, 9), some (0, 8), some (0, 23), none, none]),
  (0, 1, []),
  (100, 5, [none, none, some (0, 9), some (0, 23), none]),
  (76, 76, [none, none, some (0, 700), none, none, none, none, none, none, none, none, none, none, none, none, none, none, none, none, none, none, none, none, none, none, none, some (0, 700), some (0, 700), some (0, 700), some (0, 5), some ((-2147483648), 2147483647), some (0, 4), none, none, none, some (0, 8), some (0, 64), none, none, none, none, none, none, none, none, some (0, 1), some (0, 20), none, none, some (0, 64), none, none, none, none, none, none, none, none, none, none, none, some (0, 24), some ((-1), 24), none, none, none, none, none, none, none, none, none, none, none, none, none]),
  (700, 1, [some (0, 255)]),
  (18, 18, [some (0, 9), some (0, 6), some (0, 3), none, none, none, none, none, some (0, 64), some (0, 9), some (0, 6), some (0, 3), none, none, none, none, none, some (0, 64)]),
  (0, 1, []),
  (18, 1, [some (0, 99)]),
  (18, 1, [some (0, 1)]),
  (0, 1, []),
  (0, 1, []),
  (0, 1, []),
  (0, 1, []),
  (0, 1, []),
  (0, 1, []),
  (0, 1, []),
  (0, 1, []),
  (0, 1, []),
  (0, 1, []),
  (0, 1, []),
  (4, 1, [some (0, 64)]),
  (4, 1, [some (0, 64)]),
  (0, 1, []),
  (0, 1, []),
  (23, 1, [some (0, 23)]),
  (23, 1, [some (0, 8)]),
  (23, 1, [some (0, 3)]),
  (0, 1, []),
  (0, 1, []),
  (23, 1, [some (0, 9)]),
  (0, 1, []),
  (0, 1, []),
  (0, 1, []),
  (0, 1, []),
  (0, 1, []),
  (0, 1, []),
  (0, 1, []),
  (24, 1, [some (0, 8)]),
  (24, 1, [some (0, 23)]),
  (0, 1, []),
  (0, 1, []),
  (24, 1, [some ((-1), 23)]),
  (24, 1, [some (0, 1)]),
  (0, 1, [])]
def sRg (o k : Nat) : Option (Int × Int) := match sRl[o]? with
  | some (len, m, l) => cond (Nat.blt k len) ((l[k % m]?).getD none) none
  | none => none
abbrev sSt : Type := List (Nat × Nat × Nat)
/-- may place k of cell o be changed -/
def sIn (S : sSt) (o k : Nat) : Bool := S.any (fun p => Nat.ble p.1 o && (Nat.ble o p.2.1 && (Nat.beq p.2.2 999 || Nat.beq p.2.2 k)))
def sInC (S : sSt) (o : Nat) : Bool := S.any (fun p => Nat.ble p.1 o && Nat.ble o p.2.1)
theorem sinc_ok {S : sSt} {o : Nat} (h : sInC S o = false) (k : Nat) : sIn S o k = false := by
  cases hs : sIn S o k with
  | false => rfl
  | true =>
    obtain ⟨p, hp, h1⟩ := List.any_eq_true.mp hs
    rw [Bool.and_eq_true, Bool.and_eq_true] at h1
    have : sInC S o = true := List.any_eq_true.mpr ⟨p, hp, by rw [Bool.and_eq_true]; exact ⟨h1.1, h1.2.1⟩⟩
    rw [h] at this
    cases this
/-! WHAT ALWAYS HOLDS BESIDE RANGES. Places of a cell beyond its length aren't in the heap: they keep what is known of it (998 of 54: how many '(' wait; 997: how many below the last). -/
def xC (M : sM) : Nat → Int
  | 0 => 0
  | t + 1 => xC M t + (if M 55 t = 6 then 1 else 0)
def XI2 (M : sM) : Prop := M 54 998 = xC M (M 54 2).toNat ∧ M 54 997 = xC M ((M 54 2).toNat - 1)
/-- the byte that the reference looks at -/
def xH (M : sM) : Int := if M 91 27 < M 91 26 then M 92 (M 91 27).toNat else -1
def XI3 (M : sM) : Prop := M 91 990 = xH M
def XI (M : sM) : Prop := XI2 M ∧ XI3 M
/-- the places that it speaks of -/
def zPl : sSt := [(54, 54, 2), (54, 54, 998), (54, 54, 997), (55, 55, 999), (91, 91, 26), (91, 91, 27), (91, 91, 990), (92, 92, 999)]
theorem xc_congr {M M' : sM} (h : ∀ k, M' 55 k = M 55 k) : ∀ t, xC M' t = xC M t
  | 0 => rfl
  | t + 1 => by
    show xC M' t + (if M' 55 t = 6 then 1 else 0) = xC M t + (if M 55 t = 6 then 1 else 0)
    rw [xc_congr h t, h]
theorem xi2_congr {M M' : sM} (h : ∀ o k, sIn zPl o k = true → o < 60 → M' o k = M o k) (hx : XI2 M) : XI2 M' := by
  have h1 : M' 54 2 = M 54 2 := h _ _ rfl (by decide)
  have h2 : M' 54 998 = M 54 998 := h _ _ rfl (by decide)
  have h3 : M' 54 997 = M 54 997 := h _ _ rfl (by decide)
  have h4 : ∀ k, M' 55 k = M 55 k := fun k => h _ _ rfl (by decide)
  unfold XI2
  rw [h1, h2, h3, xc_congr h4, xc_congr h4]
  exact hx
theorem xi3_congr {M M' : sM} (h : ∀ o k, sIn zPl o k = true → 60 ≤ o → M' o k = M o k) (hx : XI3 M) : XI3 M' := by
  have h1 : M' 91 27 = M 91 27 := h _ _ rfl (by decide)
  have h2 : M' 91 26 = M 91 26 := h _ _ rfl (by decide)
  have h3 : M' 91 990 = M 91 990 := h _ _ rfl (by decide)
  have h4 : ∀ k, M' 92 k = M 92 k := fun k => h _ _ rfl (by decide)
  unfold XI3 xH
  rw [h1, h2, h3, h4]
  exact hx
theorem xi_congr {M M' : sM} (h : ∀ o k, sIn zPl o k = true → M' o k = M o k) (hx : XI M) : XI M' := ⟨xi2_congr (fun o k hz _ => h o k hz) hx.1, xi3_congr (fun o k hz _ => h o k hz) hx.2⟩
def sI0 (M : sM) : Prop := ∀ (o k : Nat) (r : Int × Int), sRg o k = some r → r.1 ≤ M o k ∧ M o k ≤ r.2
def sI (M : sM) : Prop := sI0 M ∧ XI M
def sF (S : sSt) (M0 M : sM) : Prop := ∀ o k, sIn S o k = false → M o k = M0 o k
theorem sf_r (S : sSt) (M : sM) : sF S M M := fun _ _ _ => rfl
theorem sf_u {S : sSt} {M0 M : sM} {o k : Nat} {v : Int} (h : sF S M0 M) (hs : sIn S o k = true) : sF S M0 (sU M o k v) := by
  intro o' k' h'
  by_cases hc : o' = o ∧ k' = k
  · obtain ⟨rfl, rfl⟩ := hc
    rw [hs] at h'
    cases h'
  · rw [sU_ne hc]
    exact h o' k' h'
theorem si_u0 {M : sM} {o k : Nat} {v : Int} (h : sI0 M) (hv : ∀ r, sRg o k = some r → r.1 ≤ v ∧ v ≤ r.2) : sI0 (sU M o k v) := by
  intro o' k' r hr
  by_cases hc : o' = o ∧ k' = k
  · obtain ⟨rfl, rfl⟩ := hc
    rw [sU_at]
    exact hv r hr
  · rw [sU_ne hc]
    exact h o' k' r hr
theorem xi_u {M : sM} {o k : Nat} {v : Int} (h : XI M) (hp : sIn zPl o k = false) : XI (sU M o k v) := xi_congr (fun o' k' h' => sU_ne (fun z => by rw [z.1, z.2, hp] at h'; cases h')) h
theorem si_u {M : sM} {o k : Nat} {v : Int} (h : sI M) (hp : sIn zPl o k = false) (hv : ∀ r, sRg o k = some r → r.1 ≤ v ∧ v ≤ r.2) : sI (sU M o k v) := ⟨si_u0 h.1 hv, xi_u h.2 hp⟩
def sSs (S S' : sSt) : Bool := S.all (fun p => S'.any (fun q => Nat.ble q.1 p.1 && (Nat.ble p.2.1 q.2.1 && (Nat.beq q.2.2 999 || (Nat.beq q.2.2 p.2.2 && !(Nat.beq p.2.2 999))))))
theorem sf_sub {S S' : sSt} (h : sSs S S' = true) {o k : Nat} (hs : sIn S' o k = false) : sIn S o k = false := by
  cases hi : sIn S o k with
  | false => rfl
  | true =>
    exfalso
    obtain ⟨p, hp, h1⟩ := List.any_eq_true.mp hi
    obtain ⟨q, hq, h2⟩ := List.any_eq_true.mp (List.all_eq_true.mp h p hp)
    rw [Bool.and_eq_true, Bool.and_eq_true] at h1 h2
    have : sIn S' o k = true := by
      refine List.any_eq_true.mpr ⟨q, hq, ?_⟩
      rw [Bool.and_eq_true, Bool.and_eq_true]
      refine ⟨Nat.ble_eq_true_of_le (Nat.le_trans (Nat.le_of_ble_eq_true h2.1) (Nat.le_of_ble_eq_true h1.1)), Nat.ble_eq_true_of_le (Nat.le_trans (Nat.le_of_ble_eq_true h1.2.1) (Nat.le_of_ble_eq_true h2.2.1)), ?_⟩
      have h3 := h1.2.2
      have h4 := h2.2.2
      rw [Bool.or_eq_true] at h3 h4 ⊢
      rcases h4 with h4 | h4
      · exact Or.inl h4
      · rw [Bool.and_eq_true, Bool.not_eq_true'] at h4
        rcases h3 with h3 | h3
        · rw [h3] at h4; cases h4.2
        · have e1 := Nat.eq_of_beq_eq_true h3
          have e2 := Nat.eq_of_beq_eq_true h4.1
          refine Or.inr ?_
          rw [e2, e1]
          exact Nat.beq_refl k
    rw [hs] at this
    cases this
theorem sf_t {S S' : sSt} {M0 M M' : sM} (h : sF S' M0 M) (h' : sF S M M') (hs : sSs S S' = true) : sF S' M0 M' := fun o k ho => (h' o k (sf_sub hs ho)).trans (h o k ho)
/-- the arrays of numbers: cell, kind, length -/
def sAr : List (Nat × Nat × Nat) := [(1, 21, 700), (5, 20, 3), (6, 20, 3), (7, 20, 3), (8, 20, 24), (10, 20, 64), (12, 20, 64), (31, 20, 3), (32, 20, 3), (33, 20, 3), (34, 20, 24), (36, 20, 64), (38, 20, 64), (55, 20, 72), (57, 20, 24), (59, 20, 648), (60, 20, 216), (61, 23, 6), (62, 23, 64), (64, 20, 648), (65, 20, 216), (66, 23, 6), (67, 23, 64), (69, 20, 64), (70, 20, 64), (71, 20, 64), (73, 20, 90), (74, 20, 9), (75, 20, 9), (76, 20, 9), (78, 20, 24), (79, 20, 24), (80, 20, 24), (81, 20, 24), (82, 22, 24), (83, 20, 24), (85, 20, 9), (87, 20, 9), (89, 20, 9), (90, 20, 100), (92, 20, 700), (93, 20, 18), (94, 20, 18), (95, 20, 18), (96, 22, 18), (97, 20, 18), (98, 20, 18), (99, 20, 18), (100, 20, 12), (101, 20, 12), (102, 20, 12), (103, 20, 12), (104, 20, 6), (105, 20, 6), (106, 20, 6), (107, 20, 48), (108, 20, 4), (109, 20, 4), (110, 20, 128), (111, 20, 128), (112, 20, 23), (113, 20, 23), (114, 20, 23), (115, 20, 23), (116, 20, 23), (117, 20, 23), (118, 20, 23), (119, 20, 207), (120, 23, 6), (121, 23, 64), (122, 20, 648), (123, 20, 216), (124, 20, 90), (125, 20, 24), (126, 20, 24), (127, 20, 24), (128, 20, 24), (129, 20, 24), (130, 22, 24), (131, 23, 1)]
theorem sar_ok : sAr.all (fun q => decide (sLay[q.1]? = some (q.2.1, List.replicate q.2.2 (cond (Nat.beq q.2.1 23) 1 0, 0))) && (Nat.ble q.2.2 4096 && (Nat.ble 20 q.2.1 && Nat.ble q.2.1 23))) = true := by decide +kernel
/-- objects of a kind, one behind another: the first one, how many, class, fields -/
def sFm : List (Nat × Nat × Nat × Nat) := [(13, 9, 1, 6), (39, 9, 1, 6), (22, 6, 4, 4), (48, 6, 4, 4)]
theorem sfm_ok : sFm.all (fun q => (List.range q.2.1).all (fun j => decide (sLay[q.1 + j]? = some (q.2.2.1, List.replicate q.2.2.2 (0, 0))) && (List.range q.2.2.2).all (fun k => decide (sRg (q.1 + j) k = sRg q.1 k)))) = true := by decide +kernel
end
section
/-! NUMBERS OF THE MACHINE, as whole numbers. -/
theorem zn_and (a : Int32) {m : Int} (h0 : 0 ≤ m) (h1 : m ≤ 2147483647) : 0 ≤ (a &&& Int32.ofInt m).toInt ∧ (a &&& Int32.ofInt m).toInt ≤ m := by
  have hm : (Int32.ofInt m).toInt = m := inR_to ⟨by omega, h1⟩
  have hb : (a &&& Int32.ofInt m).toInt = ((a &&& Int32.ofInt m).toBitVec).toInt := rfl
  have hb2 : ((Int32.ofInt m).toBitVec).toInt = m := hm
  rw [hb, Int32.toBitVec_and]
  have hle : (a.toBitVec &&& (Int32.ofInt m).toBitVec).toNat ≤ ((Int32.ofInt m).toBitVec).toNat := by
    rw [BitVec.toNat_and]
    exact Nat.and_le_right
  have hlt := ((Int32.ofInt m).toBitVec).isLt
  rw [BitVec.toInt_eq_toNat_cond] at hb2 ⊢
  split at hb2
  · rw [if_pos (by omega)]
    omega
  · omega
theorem zn_rem {x : Int32} {c : Int} (h0 : 0 < c) (h1 : c ≤ 2147483647) : (x - x / Int32.ofInt c * Int32.ofInt c).toInt = x.toInt.tmod c := by
  have hc : (Int32.ofInt c).toInt = c := inR_to ⟨by omega, h1⟩
  have hr := i32_rng x
  have hd : (x / Int32.ofInt c).toInt = x.toInt.tdiv c := by
    rw [Int32.toInt_div_of_ne_right _ _ (by
      intro hz
      have := congrArg Int32.toInt hz
      rw [hc] at this
      have h2 : (-1 : Int32).toInt = -1 := by decide
      omega), hc]
  have h3 := Int.tmod_add_mul_tdiv x.toInt c
  have h4 : x.toInt.tmod c = x.toInt - x.toInt.tdiv c * c := by rw [Int.mul_comm (x.toInt.tdiv c) c]; omega
  have hm : -2147483648 ≤ x.toInt.tmod c ∧ x.toInt.tmod c ≤ 2147483647 := by
    have ha := Int.natAbs_tmod x.toInt c
    have hb : (x.toInt.natAbs % c.natAbs) < c.natAbs := Nat.mod_lt _ (by omega)
    omega
  have hp : (x / Int32.ofInt c * Int32.ofInt c).toInt = x.toInt.tdiv c * c := by
    rw [Int32.toInt_mul, hd, hc]
    refine Int.bmod_eq_of_le ?_ ?_
    · have hb1 : x.toInt.tdiv c * c = x.toInt - x.toInt.tmod c := by omega
      rw [hb1]
      have ha := Int.natAbs_tmod x.toInt c
      have hb2 : (x.toInt.natAbs % c.natAbs) ≤ x.toInt.natAbs := Nat.mod_le _ _
      have hs : 0 ≤ x.toInt → 0 ≤ x.toInt.tmod c := fun h => Int.tmod_nonneg c h
      have hs2 : x.toInt ≤ 0 → x.toInt.tmod c ≤ 0 := fun h => by
        have := Int.tmod_nonneg c (a := -x.toInt) (by omega)
        rw [Int.neg_tmod] at this
        omega
      have h5 := hr.1
      have h6 := hr.2
      by_cases h : 0 ≤ x.toInt
      · have := hs h; omega
      · have := hs2 (by omega); omega
    · have hb1 : x.toInt.tdiv c * c = x.toInt - x.toInt.tmod c := by omega
      rw [hb1]
      have ha := Int.natAbs_tmod x.toInt c
      have hb2 : (x.toInt.natAbs % c.natAbs) ≤ x.toInt.natAbs := Nat.mod_le _ _
      have hs : 0 ≤ x.toInt → 0 ≤ x.toInt.tmod c := fun h => Int.tmod_nonneg c h
      have hs2 : x.toInt ≤ 0 → x.toInt.tmod c ≤ 0 := fun h => by
        have := Int.tmod_nonneg c (a := -x.toInt) (by omega)
        rw [Int.neg_tmod] at this
        omega
      have h5 := hr.1
      have h6 := hr.2
      by_cases h : 0 ≤ x.toInt
      · have := hs h; omega
      · have := hs2 (by omega); omega
  rw [Int32.toInt_sub, hp, ← h4]
  exact Int.bmod_eq_of_le (by omega) (by omega)
theorem zn_rem_b {x : Int32} {c : Int} (h0 : 0 < c) (h1 : c ≤ 2147483647) : -(c - 1) ≤ (x - x / Int32.ofInt c * Int32.ofInt c).toInt ∧ (x - x / Int32.ofInt c * Int32.ofInt c).toInt ≤ c - 1 ∧ (0 ≤ x.toInt → 0 ≤ (x - x / Int32.ofInt c * Int32.ofInt c).toInt) := by
  rw [zn_rem h0 h1]
  have ha := Int.natAbs_tmod x.toInt c
  have hb : (x.toInt.natAbs % c.natAbs) < c.natAbs := Nat.mod_lt _ (by omega)
  exact ⟨by omega, by omega, fun h => Int.tmod_nonneg c h⟩
theorem zn_div {x c : Int} (hx : 0 ≤ x) (hx1 : x ≤ 2147483647) (h0 : 0 < c) (h1 : c ≤ 2147483647) : 0 ≤ x - c * (Int32.ofInt x / Int32.ofInt c).toInt ∧ 0 ≤ c * (Int32.ofInt x / Int32.ofInt c).toInt + (c - 1) - x := by
  have hc : (Int32.ofInt c).toInt = c := inR_to ⟨by omega, h1⟩
  have hX : (Int32.ofInt x).toInt = x := inR_to ⟨by omega, hx1⟩
  have hd : (Int32.ofInt x / Int32.ofInt c).toInt = x.tdiv c := by
    rw [Int32.toInt_div_of_ne_right _ _ (by
      intro hz
      have := congrArg Int32.toInt hz
      rw [hc] at this
      have h2 : (-1 : Int32).toInt = -1 := by decide
      omega), hc, hX]
  rw [hd, Int.tdiv_eq_ediv_of_nonneg hx]
  have h2 := Int.mul_ediv_self_le (x := x) (k := c) (by omega)
  have h3 := Int.lt_mul_ediv_self_add (x := x) (k := c) (by omega)
  omega
theorem zn_ne {y : Int} (h : (1 ≤ y ∧ y ≤ 2147483647) ∨ (-2147483648 ≤ y ∧ y ≤ -1)) : ¬ Int32.ofInt y = 0 := by
  intro hz
  have h1 : (Int32.ofInt y).toInt = y := inR_to ⟨by omega, by omega⟩
  rw [hz] at h1
  have h2 : (0 : Int32).toInt = 0 := by decide
  omega
theorem zn_neL {y : Int} (h : (1 ≤ y ∧ y ≤ 9223372036854775808) ∨ (-9223372036854775808 ≤ y ∧ y ≤ -1)) : ¬ Int64.ofInt y = 0 := by
  intro hz
  have h2 : (0 : Int64).toInt = 0 := by decide
  by_cases hy : y = 9223372036854775808
  · rw [hy] at hz
    exact absurd hz (by decide)
  · have h1 : (Int64.ofInt y).toInt = y := inL_to ⟨by omega, by omega⟩
    rw [hz] at h1
    omega
theorem zn_shl : ∀ k : Fin 31, (1 <<< (Int32.ofInt (k : Nat) &&& 31) : Int32).toInt = 2 ^ (k : Nat) := by decide +kernel
theorem zn_shl_b {y : Int} {n : Nat} (h0 : 0 ≤ y) (h1 : y ≤ n) (hn : n ≤ 30) : 1 ≤ (1 <<< (Int32.ofInt y &&& 31) : Int32).toInt ∧ (1 <<< (Int32.ofInt y &&& 31) : Int32).toInt ≤ 2 ^ n := by
  have h := zn_shl ⟨y.toNat, by omega⟩
  have e : ((⟨y.toNat, by omega⟩ : Fin 31) : Nat) = y.toNat := rfl
  have e2 : ((y.toNat : Nat) : Int) = y := Int.toNat_of_nonneg h0
  rw [e, e2] at h
  rw [h]
  refine ⟨?_, ?_⟩
  · have : (1 : Nat) ≤ 2 ^ y.toNat := Nat.one_le_two_pow
    have h3 : ((2 ^ y.toNat : Nat) : Int) = (2 : Int) ^ y.toNat := by rw [Int.natCast_pow]; rfl
    omega
  · have : (2 : Nat) ^ y.toNat ≤ 2 ^ n := Nat.pow_le_pow_right (by omega) (by omega)
    have h3 : ((2 ^ y.toNat : Nat) : Int) = (2 : Int) ^ y.toNat := by rw [Int.natCast_pow]; rfl
    have h4 : ((2 ^ n : Nat) : Int) = (2 : Int) ^ n := by rw [Int.natCast_pow]; rfl
    omega
theorem zn_cmp {x y : Int} (hx : inL x) (hy : inL y) : lg_cmp (Int64.ofInt x) (Int64.ofInt y) = Int32.ofInt (if y < x then 1 else if x = y then 0 else -1) := by
  unfold lg_cmp
  have h1 : Int64.ofInt x > Int64.ofInt y ↔ y < x := by
    show Int64.ofInt y < Int64.ofInt x ↔ _
    rw [Int64.lt_iff_toInt_lt, inL_to hx, inL_to hy]
  have h2 : Int64.ofInt x = Int64.ofInt y ↔ x = y := by rw [← Int64.toInt_inj, inL_to hx, inL_to hy]
  by_cases h : y < x
  · rw [if_pos (h1.mpr h), if_pos h]; rfl
  · rw [if_neg (fun z => h (h1.mp z)), if_neg h]
    by_cases h3 : x = y
    · rw [if_pos (h2.mpr h3), if_pos h3]; rfl
    · rw [if_neg (fun z => h3 (h2.mp z)), if_neg h3]; rfl
theorem zn_cmp3 (x y : Int64) : lg_cmp x y = Int32.ofInt (-1) ∨ lg_cmp x y = Int32.ofInt 0 ∨ lg_cmp x y = Int32.ofInt 1 := by
  unfold lg_cmp
  split
  · exact Or.inr (Or.inr rfl)
  · split
    · exact Or.inr (Or.inl rfl)
    · exact Or.inl rfl
end
section
/-! GOOD STATES: from every memory and all numbers that keep the facts, the run ends as is asked. -/
def qG (d K : Nat) (J : pHp) (Q : Option sV → sM → Prop) (M0 : sM) (S : sSt) (g : Nat) (ρ0 : Nat → Int) (pc : Nat) (lv : qLv) (st : List qV) (fs : List qF) (mm : qMm) : Prop :=
  ∀ (ρ : Nat → Int) (M : sM), (∀ a, a < g → ρ a = ρ0 a) → ρ 0 = 1 → (∀ f ∈ fs, 0 ≤ qD ρ f) → (∀ q ∈ mm, M q.1 (zIx ρ q.2.1) = qD ρ q.2.2) → sI M → sF S M0 M → sR sLay d K J pc (qDL ρ lv) (qDS ρ st) M Q
section QG
variable {d K : Nat} {J : pHp} {Q : Option sV → sM → Prop} {M0 : sM} {S : sSt} {g : Nat} {ρ0 : Nat → Int} {pc a n : Nat} {lv : qLv} {st rest : List qV} {fs nf : List qF} {mm : qMm} {x y : qF}
def qUp (ρ ρ1 : Nat → Int) (n : Nat) : Nat → Int := fun a => cond (Nat.blt a n) (ρ a) (ρ1 a)
theorem qup_lt {ρ ρ1 : Nat → Int} {n a : Nat} (h : a < n) : qUp ρ ρ1 n a = ρ a := by
  unfold qUp
  have : Nat.blt a n = true := Nat.ble_eq_true_of_le h
  rw [this]; rfl
theorem qup_ge {ρ ρ1 : Nat → Int} {n a : Nat} (h : n ≤ a) : qUp ρ ρ1 n a = ρ1 a := by
  unfold qUp
  have : Nat.blt a n = false := by
    cases hb : Nat.blt a n with
    | false => rfl
    | true => have : a + 1 ≤ n := Nat.le_of_ble_eq_true hb; omega
  rw [this]; rfl
theorem qsa {lv : qLv} (h : qScA g n lv st fs mm = true) : g ≤ n ∧ lv.all (fun q => qSc n q.2.2) = true ∧ st.all (fun v => qSc n v.2) = true ∧ (∀ f ∈ fs, qSc n f = true) ∧ (∀ q ∈ mm, (qSk n q.2.1 && qSc n q.2.2) = true) := by
  unfold qScA at h
  rw [Bool.and_eq_true, Bool.and_eq_true, Bool.and_eq_true, Bool.and_eq_true] at h
  exact ⟨Nat.le_of_ble_eq_true h.1, h.2.1, h.2.2.1, List.all_eq_true.mp h.2.2.2.1, List.all_eq_true.mp h.2.2.2.2⟩
/-- new unknown numbers: from n on as ρ1 says -/
theorem qg_new (hg1 : 0 < g) {ρ ρ1 : Nat → Int} {M : sM} (hsc : qScA g n lv st fs mm = true) (hg : ∀ a, a < g → ρ a = ρ0 a) (h0 : ρ 0 = 1) (hf : ∀ f ∈ fs, 0 ≤ qD ρ f) (hm : ∀ q ∈ mm, M q.1 (zIx ρ q.2.1) = qD ρ q.2.2) :
    (∀ a, a < g → qUp ρ ρ1 n a = ρ0 a) ∧ qUp ρ ρ1 n 0 = 1 ∧ (∀ f ∈ fs, 0 ≤ qD (qUp ρ ρ1 n) f) ∧ (∀ q ∈ mm, M q.1 (zIx (qUp ρ ρ1 n) q.2.1) = qD (qUp ρ ρ1 n) q.2.2) ∧ qDL (qUp ρ ρ1 n) lv = qDL ρ lv ∧ qDS (qUp ρ ρ1 n) st = qDS ρ st := by
  obtain ⟨h1, h2, h3, h4, h5⟩ := qsa hsc
  have hr : ∀ a, a < n → qUp ρ ρ1 n a = ρ a := fun a h => qup_lt h
  refine ⟨fun a h => (hr a (by omega)).trans (hg a h), (hr 0 (by omega)).trans h0, fun f h => ?_, fun q h => ?_, qdl_sc hr h2, qds_sc hr h3⟩
  · rw [qd_sc hr (h4 f h)]; exact hf f h
  · have h6 := h5 q h
    rw [Bool.and_eq_true] at h6
    rw [qd_sc hr h6.2, zix_sc hr h6.1]; exact hm q h
/-- an instruction of the stack whose answer gets a new name -/
theorem qg_hv (hg1 : 0 < g) (t : Nat) {i : Instr} {len : Nat} (he : (pc, i, len, a) ∈ pTs.getD K []) (ha : a < 99999) (hsc : qScA g n lv rest fs mm = true)
    (hop : ∀ ρ : Nat → Int, ρ 0 = 1 → (∀ f ∈ fs, 0 ≤ qD ρ f) → ∃ z : Int, pStk i ((qDS ρ st).map sE) = some (len, sE (t, z) :: (qDS ρ rest).map sE) ∧ ∀ ρ' : Nat → Int, (∀ a, a < n → ρ' a = ρ a) → ρ' n = z → ρ' 0 = 1 → ∀ f ∈ nf, 0 ≤ qD ρ' f)
    (k : qG d K J Q M0 S g ρ0 (pc + len) lv ((t, [(1, n)]) :: rest) (fs ++ nf) mm) : qG d K J Q M0 S g ρ0 pc lv st fs mm := by
  intro ρ M hg h0 hf hm hI hF
  obtain ⟨z, h1, h2⟩ := hop ρ h0 hf
  obtain ⟨e1, e2, e3, e4, e5, e6⟩ := qg_new (ρ1 := fun _ => z) hg1 hsc hg h0 hf hm
  have hn : qUp ρ (fun _ => z) n n = z := qup_ge (Nat.le_refl n)
  have h3 := k (qUp ρ (fun _ => z) n) M e1 e2 (fun f hf' => by
    rcases List.mem_append.mp hf' with h | h
    · exact e3 f h
    · exact h2 _ (fun a h => qup_lt h) hn e2 f h) e4 hI hF
  rw [e5] at h3
  refine sr_stk (st' := (t, z) :: qDS ρ rest) he ha h1 ?_
  have e7 : qDS (qUp ρ (fun _ => z) n) ((t, [(1, n)]) :: rest) = (t, z) :: qDS ρ rest := by
    show (t, 1 * qUp ρ (fun _ => z) n n + 0) :: qDS (qUp ρ (fun _ => z) n) rest = _
    rw [e6, hn]
    congr 2
    omega
  rw [e7] at h3
  exact h3
/-- an instruction of the stack whose answer is a form -/
theorem qg_st {i : Instr} {len : Nat} {st' : List qV} (he : (pc, i, len, a) ∈ pTs.getD K []) (ha : a < 99999) (hop : ∀ ρ : Nat → Int, ρ 0 = 1 → pStk i ((qDS ρ st).map sE) = some (len, (qDS ρ st').map sE)) (k : qG d K J Q M0 S g ρ0 (pc + len) lv st' fs mm) : qG d K J Q M0 S g ρ0 pc lv st fs mm := by
  intro ρ M hg h0 hf hm hI hF
  exact sr_stk he ha (hop ρ h0) (k ρ M hg h0 hf hm hI hF)
/-- a state that cannot be -/
theorem qg_no {c : qF} (h : qEnt fs [(-1, 0)] c = true) : qG d K J Q M0 S g ρ0 pc lv st fs mm := by
  intro ρ M hg h0 hf hm hI hF
  have := qd_ent h0 hf h
  exfalso
  have e : qD ρ [(-1, 0)] = -1 := by
    show -1 * ρ 0 + 0 = -1
    rw [h0]
    rfl
  rw [e] at this
  omega
end QG
/-! THE INSTRUCTIONS OF THE STACK, AS FORMS: length, new stack. -/
def zIn8 (c : Int) : Bool := !(zNg (c + 128)) && !(zNg (127 - c))
def zIn16 (c : Int) : Bool := !(zNg (c + 32768)) && !(zNg (32767 - c))
def zIn32 (c : Int) : Bool := !(zNg (c + 2147483648)) && !(zNg (2147483647 - c))
def qEx (i : Instr) (st : List qV) : Option (Nat × List qV) := match i with
  | .iconst c => some (1, (0, qCn c) :: st)
  | .bipush c => cond (zIn8 c) (some (2, (0, qCn c) :: st)) none
  | .sipush c => cond (zIn16 c) (some (3, (0, qCn c) :: st)) none
  | .lconst c => some (1, (1, qCn ((c : Nat) : Int)) :: st)
  | .iadd => match st with | (0, y) :: (0, x) :: r => some (1, (0, qAdd x y) :: r) | _ => none
  | .isub => match st with | (0, y) :: (0, x) :: r => some (1, (0, qSub x y) :: r) | _ => none
  | .imul => match st with
    | (0, y) :: (0, x) :: r => match qKo y with
      | some c => some (1, (0, cond (c == 0) [] (qScl c x)) :: r)
      | none => match qKo x with
        | some c => some (1, (0, cond (c == 0) [] (qScl c y)) :: r)
        | none => none
    | _ => none
  | .ineg => match st with | (0, x) :: r => some (1, (0, qScl (-1) x) :: r) | _ => none
  | .lneg => match st with | (1, x) :: r => some (1, (1, qScl (-1) x) :: r) | _ => none
  | .i2l => match st with | (0, x) :: r => (match qKo x with | some c => cond (zIn32 c) (some (1, (1, qCn c) :: r)) none | none => none) | _ => none
  | .idiv => match st with
    | (0, y) :: (0, x) :: r => (match qKo x, qKo y with
      | some a, some c => cond (zNg a || (zNg (2147483647 - a) || (zNg (c - 1) || zNg (2147483647 - c)))) none (some (1, (0, qCn (a / c)) :: r))
      | _, _ => none)
    | _ => none
  | .iand => match st with
    | (0, y) :: (0, x) :: r => (match qKo x, qKo y with
      | some a, some c => some (1, (0, qCn (Int32.ofInt a &&& Int32.ofInt c).toInt) :: r)
      | _, _ => none)
    | _ => none
  | .ishr => match st with
    | (0, y) :: (0, x) :: r => (match qKo x, qKo y with
      | some a, some c => some (1, (0, qCn (Int32.ofInt a >>> (Int32.ofInt c &&& 31)).toInt) :: r)
      | _, _ => none)
    | _ => none
  | .i2c => match st with
    | (0, x) :: r => (match qKo x with
      | some a => some (1, (0, qCn ((Int32.ofInt a).toUInt32 % 65536).toInt32.toInt) :: r)
      | none => none)
    | _ => none
  | .dup => match st with | (0, x) :: r => some (1, (0, x) :: (0, x) :: r) | (2, x) :: r => some (1, (2, x) :: (2, x) :: r) | _ => none
  | .pop => match st with | (0, _) :: r => some (1, r) | (2, _) :: r => some (1, r) | _ => none
  | .dup2 => match st with | (0, x) :: (2, y) :: r => some (1, (0, x) :: (2, y) :: (0, x) :: (2, y) :: r) | _ => none
  | _ => none
theorem zin_f {c : Int} {k : Int} (h : (!(zNg (c + k)) && !(zNg (k - 1 - c))) = true) : -k ≤ c ∧ c ≤ k - 1 := by
  rw [Bool.and_eq_true, Bool.not_eq_true', Bool.not_eq_true'] at h
  have h1 := zng_f h.1
  have h2 := zng_f h.2
  omega
theorem z_bip : ∀ k : Fin 256, (Int8.ofInt ((k : Nat) - 128 : Int)).toInt32 = Int32.ofInt ((k : Nat) - 128 : Int) := by decide +kernel
theorem z_bip2 {c : Int} (h : -128 ≤ c ∧ c ≤ 127) : (Int8.ofInt c).toInt32 = Int32.ofInt c := by
  have := z_bip ⟨(c + 128).toNat, by omega⟩
  have e : (((⟨(c + 128).toNat, by omega⟩ : Fin 256) : Nat) : Int) - 128 = c := by
    show (((c + 128).toNat : Nat) : Int) - 128 = c
    omega
  rw [e] at this
  exact this
theorem z_sip2 {c : Int} (h : -32768 ≤ c ∧ c ≤ 32767) : (Int16.ofInt c).toInt32 = Int32.ofInt c := by
  rw [← Int32.toInt_inj, Int16.toInt_toInt32, Int16.toInt_ofInt_of_le (by omega) (by omega), inR_to ⟨by omega, by omega⟩]
theorem qex_ok {i : Instr} {st st' : List qV} {len : Nat} (h : qEx i st = some (len, st')) (ρ : Nat → Int) (h0 : ρ 0 = 1) : pStk i ((qDS ρ st).map sE) = some (len, (qDS ρ st').map sE) := by
  unfold qEx at h
  split at h
  · cases h
    show some (1, Value.int _ :: _) = some (1, sE (0, qD ρ (qCn _)) :: _)
    rw [qd_cn h0]; rfl
  · rename_i c
    cases hc : zIn8 c with
    | false => rw [hc] at h; cases h
    | true =>
      rw [hc] at h
      cases h
      show some (2, Value.int (Int8.ofInt c).toInt32 :: _) = some (2, sE (0, qD ρ (qCn _)) :: _)
      rw [qd_cn h0, z_bip2 (zin_f (k := 128) hc)]; rfl
  · rename_i c
    cases hc : zIn16 c with
    | false => rw [hc] at h; cases h
    | true =>
      rw [hc] at h
      cases h
      show some (3, Value.int (Int16.ofInt c).toInt32 :: _) = some (3, sE (0, qD ρ (qCn _)) :: _)
      rw [qd_cn h0, z_sip2 (zin_f (k := 32768) hc)]; rfl
  · cases h
    show some (1, Value.long _ :: _) = some (1, sE (1, qD ρ (qCn _)) :: _)
    rw [qd_cn h0]; rfl
  · split at h
    · rename_i y x r
      cases h
      show some (1, Value.int (Int32.ofInt (qD ρ x) + Int32.ofInt (qD ρ y)) :: _) = some (1, sE (0, qD ρ (qAdd x y)) :: _)
      rw [qd_add, ← Int32.ofInt_add]; rfl
    · cases h
  · split at h
    · rename_i y x r
      cases h
      show some (1, Value.int (Int32.ofInt (qD ρ x) - Int32.ofInt (qD ρ y)) :: _) = some (1, sE (0, qD ρ (qSub x y)) :: _)
      rw [qd_sub, ← Int32.ofInt_sub]; rfl
    · cases h
  · split at h
    · rename_i y x r
      have hz : ∀ (c : Int) (f : qF), qD ρ (cond (c == 0) [] (qScl c f)) = c * qD ρ f := by
        intro c f
        cases hc : (c == 0) with
        | true =>
          have : c = 0 := by simpa using hc
          subst this
          show (0 : Int) = 0 * _
          omega
        | false => exact qd_scl ρ c f
      have hg : ∀ f : qF, qD ρ f = qD ρ x * qD ρ y → pStk .imul ((qDS ρ ((0, y) :: (0, x) :: r)).map sE) = some (1, (qDS ρ ((0, f) :: r)).map sE) := by
        intro f hf
        show some (1, Value.int (Int32.ofInt (qD ρ x) * Int32.ofInt (qD ρ y)) :: _) = some (1, sE (0, qD ρ f) :: _)
        rw [hf, ← Int32.ofInt_mul]; rfl
      split at h
      · rename_i c hc
        cases h
        refine hg _ ?_
        rw [hz, qd_ko h0 hc, Int.mul_comm]
      · split at h
        · rename_i c hc
          cases h
          refine hg _ ?_
          rw [hz, qd_ko h0 hc]
        · cases h
    · cases h
  · split at h
    · rename_i x r
      cases h
      show some (1, Value.int (-Int32.ofInt (qD ρ x)) :: _) = some (1, sE (0, qD ρ (qScl (-1) x)) :: _)
      rw [qd_scl, ← Int32.ofInt_neg]
      show some (1, Value.int (Int32.ofInt (-qD ρ x)) :: _) = some (1, Value.int (Int32.ofInt (-1 * qD ρ x)) :: _)
      rw [show -1 * qD ρ x = -qD ρ x by omega]
    · cases h
  · split at h
    · rename_i x r
      cases h
      show some (1, Value.long (-Int64.ofInt (qD ρ x)) :: _) = some (1, sE (1, qD ρ (qScl (-1) x)) :: _)
      rw [qd_scl, ← Int64.ofInt_neg]
      show some (1, Value.long (Int64.ofInt (-qD ρ x)) :: _) = some (1, Value.long (Int64.ofInt (-1 * qD ρ x)) :: _)
      rw [show -1 * qD ρ x = -qD ρ x by omega]
    · cases h
  · split at h
    · rename_i x r
      split at h
      · rename_i c hc
        cases hc2 : zIn32 c with
        | false => rw [hc2] at h; cases h
        | true =>
          rw [hc2] at h
          cases h
          have h1 := zin_f (k := 2147483648) hc2
          show some (1, Value.long (Int32.ofInt (qD ρ x)).toInt64 :: _) = some (1, sE (1, qD ρ (qCn c)) :: _)
          rw [qd_cn h0, qd_ko h0 hc]
          have e : (Int32.ofInt c).toInt64 = Int64.ofInt c := by
            rw [← Int64.toInt_inj, Int32.toInt_toInt64, inR_to ⟨by omega, by omega⟩, inL_to ⟨by omega, by omega⟩]
          rw [e]; rfl
      · cases h
    · cases h
  · split at h
    · rename_i y x r
      split at h
      · rename_i a c ha hc
        cases hb : (zNg a || (zNg (2147483647 - a) || (zNg (c - 1) || zNg (2147483647 - c)))) with
        | true => rw [hb] at h; cases h
        | false =>
          rw [hb] at h
          cases h
          rw [Bool.or_eq_false_iff, Bool.or_eq_false_iff, Bool.or_eq_false_iff] at hb
          have h1 := zng_f hb.1
          have h2 := zng_f hb.2.1
          have h3 := zng_f hb.2.2.1
          have h4 := zng_f hb.2.2.2
          have ex := qd_ko h0 ha
          have ey := qd_ko h0 hc
          have hd := zn_div (x := a) (c := c) h1 (by omega) (by omega) (by omega)
          have hq := Int.mul_ediv_self_le (x := a) (k := c) (by omega)
          have hq2 := Int.lt_mul_ediv_self_add (x := a) (k := c) (by omega)
          have hz : (Int32.ofInt a / Int32.ofInt c).toInt = a / c := by
            have e1 : c * (Int32.ofInt a / Int32.ofInt c).toInt < c * (a / c + 1) := by rw [Int.mul_add]; omega
            have e2 : c * (a / c) < c * ((Int32.ofInt a / Int32.ofInt c).toInt + 1) := by rw [Int.mul_add]; omega
            have e3 := Int.lt_of_mul_lt_mul_left e1 (by omega)
            have e4 := Int.lt_of_mul_lt_mul_left e2 (by omega)
            omega
          have hnz : ¬ Int32.ofInt (qD ρ y) = 0 := zn_ne (by omega)
          show (if Int32.ofInt (qD ρ y) = 0 then none else some (1, Value.int (Int32.ofInt (qD ρ x) / Int32.ofInt (qD ρ y)) :: _)) = some (1, Value.int (Int32.ofInt (qD ρ (qCn (a / c)))) :: _)
          rw [if_neg hnz, qd_cn h0, ex, ey, ← hz, i32_of]
      · cases h
    · cases h
  · split at h
    · rename_i y x r
      split at h
      · rename_i a c ha hc
        cases h
        show some (1, Value.int (Int32.ofInt (qD ρ x) &&& Int32.ofInt (qD ρ y)) :: _) = some (1, Value.int (Int32.ofInt (qD ρ (qCn _))) :: _)
        rw [qd_cn h0, qd_ko h0 ha, qd_ko h0 hc, i32_of]
      · cases h
    · cases h
  · split at h
    · rename_i y x r
      split at h
      · rename_i a c ha hc
        cases h
        show some (1, Value.int (Int32.ofInt (qD ρ x) >>> (Int32.ofInt (qD ρ y) &&& 31)) :: _) = some (1, Value.int (Int32.ofInt (qD ρ (qCn _))) :: _)
        rw [qd_cn h0, qd_ko h0 ha, qd_ko h0 hc, i32_of]
      · cases h
    · cases h
  · split at h
    · rename_i x r
      split at h
      · rename_i a ha
        cases h
        show some (1, Value.int ((Int32.ofInt (qD ρ x)).toUInt32 % 65536).toInt32 :: _) = some (1, Value.int (Int32.ofInt (qD ρ (qCn _))) :: _)
        rw [qd_cn h0, qd_ko h0 ha, i32_of]
      · cases h
    · cases h
  · split at h
    · cases h; rfl
    · cases h; rfl
    · cases h
  · split at h
    · cases h; rfl
    · cases h; rfl
    · cases h
  · split at h
    · cases h; rfl
    · cases h
  · cases h
end
section
/-! THE INSTRUCTIONS OF THE STACK WHOSE ANSWER GETS A NEW NAME (n): tag, length, stack below, what is known of it; hints are taken from hs: how, then what shows that it may be done so. -/
abbrev qHs : Type := List qF
def qInR (n : Nat) : List qF := [[(2147483648, 0), (1, n)], [(2147483647, 0), (-1, n)]]
def qInL (n : Nat) : List qF := [[(9223372036854775808, 0), (1, n)], [(9223372036854775807, 0), (-1, n)]]
abbrev qHr : Type := Nat × Nat × List qV × List qF × qHs
/-- divisors that aren't 0 -/
def qNz (fs : List qF) (y : qF) (mx : Int) (hs : qHs) : Option qHs := match hs with
  | [(2, 0)] :: a :: b :: t => cond (qEnt fs (qSub y (qCn 1)) a && qEnt fs (qSub (qCn mx) y) b) (some t) none
  | [(3, 0)] :: a :: b :: t => cond (qEnt fs (qSub (qCn (-1)) y) a && qEnt fs (qAdd y (qCn mx)) b) (some t) none
  | _ => none
def qHv (i : Instr) (st : List qV) (fs : List qF) (n : Nat) (hs : qHs) : Option qHr := match i with
  | .imul => match st with | (0, _) :: (0, _) :: r => some (0, 1, r, qInR n, hs) | _ => none
  | .iadd => match st with | (0, _) :: (0, _) :: r => some (0, 1, r, qInR n, hs) | _ => none
  | .ineg => match st with | (0, _) :: r => some (0, 1, r, qInR n, hs) | _ => none
  | .iand => match st with
    | (0, y) :: (0, _) :: r => (match qKo y with
      | some c => cond (zNg c || zNg (2147483647 - c)) (some (0, 1, r, qInR n, hs)) (some (0, 1, r, [[(1, n)], qAdd (qCn c) [(-1, n)]], hs))
      | none => some (0, 1, r, qInR n, hs))
    | _ => none
  | .ior => match st with | (0, _) :: (0, _) :: r => some (0, 1, r, qInR n, hs) | _ => none
  | .ixor => match st with | (0, _) :: (0, _) :: r => some (0, 1, r, qInR n, hs) | _ => none
  | .ishr => match st with | (0, _) :: (0, _) :: r => some (0, 1, r, qInR n, hs) | _ => none
  | .ishl => match st with
    | (0, y) :: (0, x) :: r => (match hs with
      | [] :: t => some (0, 1, r, qInR n, t)
      | [(c, 0)] :: a :: b :: t => cond (x == [(1, 0)] && !(zNg (30 - c)) && (!(zNg c) && (qEnt fs y a && qEnt fs (qSub (qCn c) y) b))) (some (0, 1, r, [[(-1, 0), (1, n)], qAdd (qCn (2 ^ c.toNat)) [(-1, n)]], t)) none
      | _ => none)
    | _ => none
  | .irem => match st with
    | (0, y) :: (0, x) :: r => (match qKo y with
      | some c => cond (zNg (c - 1) || zNg (2147483647 - c)) none (match hs with
        | [] :: t => some (0, 1, r, [qAdd (qCn (c - 1)) [(1, n)], qAdd (qCn (c - 1)) [(-1, n)]], t)
        | [(1, 0)] :: a :: b :: t => cond (qEnt fs x a && qEnt fs (qSub (qCn 2147483647) x) b) (some (0, 1, r, [[(1, n)], qAdd (qCn (c - 1)) [(-1, n)]], t)) none
        | _ => none)
      | none => none)
    | _ => none
  | .idiv => match st with
    | (0, y) :: (0, x) :: r => (match hs with
      | [(1, 0)] :: a :: b :: t => (match qKo y with
        | some c => cond (zNg (c - 1) || zNg (2147483647 - c)) none (cond (qEnt fs x a && qEnt fs (qSub (qCn 2147483647) x) b) (some (0, 1, r, [qSub x [(c, n)], qSub (qAdd (qCn (c - 1)) [(c, n)]) x], t)) none)
        | none => none)
      | _ => (match qNz fs y 2147483647 hs with | some t => some (0, 1, r, qInR n, t) | none => none))
    | _ => none
  | .i2l => match st with | (0, _) :: r => some (1, 1, r, qInR n, hs) | _ => none
  | .l2i => match st with | (1, _) :: r => some (0, 1, r, qInR n, hs) | _ => none
  | .i2b => match st with | (0, _) :: r => some (0, 1, r, qInR n, hs) | _ => none
  | .i2c => match st with | (0, _) :: r => some (0, 1, r, qInR n, hs) | _ => none
  | .ladd => match st with | (1, _) :: (1, _) :: r => some (1, 1, r, qInL n, hs) | _ => none
  | .lsub => match st with | (1, _) :: (1, _) :: r => some (1, 1, r, qInL n, hs) | _ => none
  | .lmul => match st with | (1, _) :: (1, _) :: r => some (1, 1, r, qInL n, hs) | _ => none
  | .land => match st with | (1, _) :: (1, _) :: r => some (1, 1, r, qInL n, hs) | _ => none
  | .ldiv => match st with | (1, y) :: (1, _) :: r => (match qNz fs y 9223372036854775808 hs with | some t => some (1, 1, r, qInL n, t) | none => none) | _ => none
  | .lrem => match st with | (1, y) :: (1, _) :: r => (match qNz fs y 9223372036854775808 hs with | some t => some (1, 1, r, qInL n, t) | none => none) | _ => none
  | _ => none
theorem qd_at {ρ : Nat → Int} {c : Int} {a : Nat} : qD ρ [(c, a)] = c * ρ a := by show c * ρ a + 0 = _; omega
theorem qinr_ok {ρ : Nat → Int} {n : Nat} (h0 : ρ 0 = 1) {z : Int} (hn : ρ n = z) (hz : inR z) : ∀ f ∈ qInR n, 0 ≤ qD ρ f := by
  intro f hf
  have h1 := hz.1
  have h2 := hz.2
  rcases List.mem_cons.mp hf with rfl | hf
  · show 0 ≤ 2147483648 * ρ 0 + (1 * ρ n + 0)
    rw [h0, hn]; omega
  · rcases List.mem_cons.mp hf with rfl | hf
    · show 0 ≤ 2147483647 * ρ 0 + (-1 * ρ n + 0)
      rw [h0, hn]; omega
    · cases hf
theorem qinl_ok {ρ : Nat → Int} {n : Nat} (h0 : ρ 0 = 1) {z : Int} (hn : ρ n = z) (hz : inL z) : ∀ f ∈ qInL n, 0 ≤ qD ρ f := by
  intro f hf
  have h1 := hz.1
  have h2 := hz.2
  rcases List.mem_cons.mp hf with rfl | hf
  · show 0 ≤ 9223372036854775808 * ρ 0 + (1 * ρ n + 0)
    rw [h0, hn]; omega
  · rcases List.mem_cons.mp hf with rfl | hf
    · show 0 ≤ 9223372036854775807 * ρ 0 + (-1 * ρ n + 0)
      rw [h0, hn]; omega
    · cases hf
theorem qnz_ok {ρ : Nat → Int} (h0 : ρ 0 = 1) {fs : List qF} (hf : ∀ f ∈ fs, 0 ≤ qD ρ f) {y : qF} {mx : Int} {hs t : qHs} (h : qNz fs y mx hs = some t) : (1 ≤ qD ρ y ∧ qD ρ y ≤ mx) ∨ (-mx ≤ qD ρ y ∧ qD ρ y ≤ -1) := by
  unfold qNz at h
  split at h
  · rename_i a b t'
    cases hc : (qEnt fs (qSub y (qCn 1)) a && qEnt fs (qSub (qCn mx) y) b) with
    | false => rw [hc] at h; cases h
    | true =>
      rw [Bool.and_eq_true] at hc
      have h1 := qd_ent h0 hf hc.1
      have h2 := qd_ent h0 hf hc.2
      rw [qd_sub, qd_cn h0] at h1 h2
      omega
  · rename_i a b t'
    cases hc : (qEnt fs (qSub (qCn (-1)) y) a && qEnt fs (qAdd y (qCn mx)) b) with
    | false => rw [hc] at h; cases h
    | true =>
      rw [Bool.and_eq_true] at hc
      have h1 := qd_ent h0 hf hc.1
      have h2 := qd_ent h0 hf hc.2
      rw [qd_sub, qd_cn h0] at h1
      rw [qd_add, qd_cn h0] at h2
      omega
  · cases h
/-- an int that is known to be one -/
theorem qhv_i {ρ : Nat → Int} {i : Instr} {len n : Nat} {st rest : List qV} {nf : List qF} (z : Int32) (h : pStk i ((qDS ρ st).map sE) = some (len, Value.int z :: (qDS ρ rest).map sE)) (hz : ∀ ρ' : Nat → Int, (∀ a, a < n → ρ' a = ρ a) → ρ' n = z.toInt → ρ' 0 = 1 → ∀ f ∈ nf, 0 ≤ qD ρ' f) : ∃ z : Int, pStk i ((qDS ρ st).map sE) = some (len, sE (0, z) :: (qDS ρ rest).map sE) ∧ ∀ ρ' : Nat → Int, (∀ a, a < n → ρ' a = ρ a) → ρ' n = z → ρ' 0 = 1 → ∀ f ∈ nf, 0 ≤ qD ρ' f :=
  ⟨z.toInt, by rw [h]; show _ = some (len, Value.int (Int32.ofInt z.toInt) :: _); rw [i32_of], hz⟩
theorem qhv_l {ρ : Nat → Int} {i : Instr} {len n : Nat} {st rest : List qV} {nf : List qF} (z : Int64) (h : pStk i ((qDS ρ st).map sE) = some (len, Value.long z :: (qDS ρ rest).map sE)) (hz : ∀ ρ' : Nat → Int, (∀ a, a < n → ρ' a = ρ a) → ρ' n = z.toInt → ρ' 0 = 1 → ∀ f ∈ nf, 0 ≤ qD ρ' f) : ∃ z : Int, pStk i ((qDS ρ st).map sE) = some (len, sE (1, z) :: (qDS ρ rest).map sE) ∧ ∀ ρ' : Nat → Int, (∀ a, a < n → ρ' a = ρ a) → ρ' n = z → ρ' 0 = 1 → ∀ f ∈ nf, 0 ≤ qD ρ' f :=
  ⟨z.toInt, by rw [h]; show _ = some (len, Value.long (Int64.ofInt z.toInt) :: _); rw [i64_of], hz⟩
theorem qhv_ok {i : Instr} {st rest : List qV} {fs nf : List qF} {n t len : Nat} {hs hs' : qHs} (h : qHv i st fs n hs = some (t, len, rest, nf, hs')) (hn : 0 < n) (hsc : st.all (fun v => qSc n v.2) = true) (ρ : Nat → Int) (h0 : ρ 0 = 1) (hf : ∀ f ∈ fs, 0 ≤ qD ρ f) : ∃ z : Int, pStk i ((qDS ρ st).map sE) = some (len, sE (t, z) :: (qDS ρ rest).map sE) ∧ ∀ ρ' : Nat → Int, (∀ a, a < n → ρ' a = ρ a) → ρ' n = z → ρ' 0 = 1 → ∀ f ∈ nf, 0 ≤ qD ρ' f := by
  have hI : ∀ z : Int32, ∀ ρ' : Nat → Int, (∀ a, a < n → ρ' a = ρ a) → ρ' n = z.toInt → ρ' 0 = 1 → ∀ f ∈ qInR n, 0 ≤ qD ρ' f := fun z ρ' _ hz h0' => qinr_ok h0' hz (i32_rng z)
  have hL : ∀ z : Int64, ∀ ρ' : Nat → Int, (∀ a, a < n → ρ' a = ρ a) → ρ' n = z.toInt → ρ' 0 = 1 → ∀ f ∈ qInL n, 0 ≤ qD ρ' f := fun z ρ' _ hz h0' => qinl_ok h0' hz (i64_rng z)
  unfold qHv at h
  split at h
  · split at h
    · cases h; exact qhv_i _ rfl (hI _)
    · cases h
  · split at h
    · cases h; exact qhv_i _ rfl (hI _)
    · cases h
  · split at h
    · cases h; exact qhv_i _ rfl (hI _)
    · cases h
  · split at h
    · rename_i y x r
      split at h
      · rename_i c hc
        cases hb : (zNg c || zNg (2147483647 - c)) with
        | true => rw [hb] at h; cases h; exact qhv_i _ rfl (hI _)
        | false =>
          rw [hb] at h
          cases h
          rw [Bool.or_eq_false_iff] at hb
          have h1 := zng_f hb.1
          have h2 := zng_f hb.2
          refine qhv_i (Int32.ofInt (qD ρ x) &&& Int32.ofInt (qD ρ y)) rfl (fun ρ' _ hz h0' => ?_)
          rw [qd_ko h0 hc] at hz
          have h3 := zn_and (Int32.ofInt (qD ρ x)) h1 (by omega)
          rw [← hz] at h3
          intro f hf'
          rcases List.mem_cons.mp hf' with rfl | hf'
          · rw [qd_at]; omega
          · rcases List.mem_cons.mp hf' with rfl | hf'
            · rw [qd_add, qd_cn h0', qd_at]; omega
            · cases hf'
      · cases h; exact qhv_i _ rfl (hI _)
    · cases h
  · split at h
    · cases h; exact qhv_i _ rfl (hI _)
    · cases h
  · split at h
    · cases h; exact qhv_i _ rfl (hI _)
    · cases h
  · split at h
    · cases h; exact qhv_i _ rfl (hI _)
    · cases h
  · split at h
    · rename_i y x r
      split at h
      · cases h; exact qhv_i _ rfl (hI _)
      · rename_i c a b t'
        cases hc : (x == [(1, 0)] && !(zNg (30 - c)) && (!(zNg c) && (qEnt fs y a && qEnt fs (qSub (qCn c) y) b))) with
        | false => rw [hc] at h; cases h
        | true =>
          rw [hc] at h
          cases h
          rw [Bool.and_eq_true, Bool.and_eq_true, Bool.and_eq_true, Bool.and_eq_true, Bool.not_eq_true', Bool.not_eq_true'] at hc
          have hx : x = [(1, 0)] := by simpa using hc.1.1
          have h1 := zng_f hc.1.2
          have h2 := zng_f hc.2.1
          have h3 := qd_ent h0 hf hc.2.2.1
          have h4 := qd_ent h0 hf hc.2.2.2
          rw [qd_sub, qd_cn h0] at h4
          have h5 := zn_shl_b (y := qD ρ y) (n := c.toNat) h3 (by omega) (by omega)
          have hx1 : qD ρ x = 1 := by rw [hx, qd_at, h0]; rfl
          refine qhv_i (Int32.ofInt (qD ρ x) <<< (Int32.ofInt (qD ρ y) &&& 31)) rfl (fun ρ' _ hz h0' => ?_)
          rw [hx1] at hz
          have e1 : Int32.ofInt 1 = 1 := rfl
          rw [e1] at hz
          rw [← hz] at h5
          intro f hf'
          rcases List.mem_cons.mp hf' with rfl | hf'
          · show 0 ≤ -1 * ρ' 0 + (1 * ρ' n + 0)
            rw [h0']; omega
          · rcases List.mem_cons.mp hf' with rfl | hf'
            · rw [qd_add, qd_cn h0', qd_at]; omega
            · cases hf'
      · cases h
    · cases h
  · split at h
    · rename_i y x r
      split at h
      · rename_i c hc
        cases hb : (zNg (c - 1) || zNg (2147483647 - c)) with
        | true => rw [hb] at h; cases h
        | false =>
          rw [hb] at h
          rw [Bool.or_eq_false_iff] at hb
          have h1 := zng_f hb.1
          have h2 := zng_f hb.2
          have hy := qd_ko h0 hc
          have hnz : ¬ Int32.ofInt (qD ρ y) = 0 := zn_ne (by omega)
          have hp : pStk .irem ((qDS ρ ((0, y) :: (0, x) :: r)).map sE) = some (1, Value.int (Int32.ofInt (qD ρ x) - Int32.ofInt (qD ρ x) / Int32.ofInt (qD ρ y) * Int32.ofInt (qD ρ y)) :: (qDS ρ r).map sE) := by
            show (if Int32.ofInt (qD ρ y) = 0 then none else some (1, Value.int (Int32.ofInt (qD ρ x) - Int32.ofInt (qD ρ x) / Int32.ofInt (qD ρ y) * Int32.ofInt (qD ρ y)) :: (qDS ρ r).map sE)) = _
            rw [if_neg hnz]
          have hb3 := zn_rem_b (x := Int32.ofInt (qD ρ x)) (c := c) (by omega) (by omega)
          rw [← hy] at hb3
          rw [cond_false] at h
          split at h
          · cases h
            refine qhv_i _ hp (fun ρ' _ hz h0' => ?_)
            rw [← hz] at hb3
            intro f hf'
            rcases List.mem_cons.mp hf' with rfl | hf'
            · rw [qd_add, qd_cn h0', qd_at]; omega
            · rcases List.mem_cons.mp hf' with rfl | hf'
              · rw [qd_add, qd_cn h0', qd_at]; omega
              · cases hf'
          · rename_i a b t'
            cases hc2 : (qEnt fs x a && qEnt fs (qSub (qCn 2147483647) x) b) with
            | false => rw [hc2] at h; cases h
            | true =>
              rw [hc2] at h
              cases h
              rw [Bool.and_eq_true] at hc2
              have h3 := qd_ent h0 hf hc2.1
              have h4 := qd_ent h0 hf hc2.2
              rw [qd_sub, qd_cn h0] at h4
              have h5 : (Int32.ofInt (qD ρ x)).toInt = qD ρ x := inR_to ⟨by omega, by omega⟩
              refine qhv_i _ hp (fun ρ' _ hz h0' => ?_)
              rw [← hz, h5] at hb3
              have h6 := hb3.2.2 h3
              intro f hf'
              rcases List.mem_cons.mp hf' with rfl | hf'
              · rw [qd_at]; omega
              · rcases List.mem_cons.mp hf' with rfl | hf'
                · rw [qd_add, qd_cn h0', qd_at]; omega
                · cases hf'
          · cases h
      · cases h
    · cases h
  · split at h
    · rename_i y x r
      have hp : ¬ Int32.ofInt (qD ρ y) = 0 → pStk .idiv ((qDS ρ ((0, y) :: (0, x) :: r)).map sE) = some (1, Value.int (Int32.ofInt (qD ρ x) / Int32.ofInt (qD ρ y)) :: (qDS ρ r).map sE) := by
        intro hnz
        show (if Int32.ofInt (qD ρ y) = 0 then none else some (1, Value.int (Int32.ofInt (qD ρ x) / Int32.ofInt (qD ρ y)) :: (qDS ρ r).map sE)) = _
        rw [if_neg hnz]
      split at h
      · rename_i a b t'
        split at h
        · rename_i c hc
          cases hb : (zNg (c - 1) || zNg (2147483647 - c)) with
          | true => rw [hb] at h; cases h
          | false =>
            rw [hb] at h
            rw [Bool.or_eq_false_iff] at hb
            have h1 := zng_f hb.1
            have h2 := zng_f hb.2
            have hy := qd_ko h0 hc
            cases hc2 : (qEnt fs x a && qEnt fs (qSub (qCn 2147483647) x) b) with
            | false => rw [hc2] at h; cases h
            | true =>
              rw [hc2] at h
              cases h
              rw [Bool.and_eq_true] at hc2
              have h3 := qd_ent h0 hf hc2.1
              have h4 := qd_ent h0 hf hc2.2
              rw [qd_sub, qd_cn h0] at h4
              have hb3 := zn_div (x := qD ρ x) (c := c) h3 (by omega) (by omega) (by omega)
              rw [← hy] at hb3
              refine qhv_i _ (hp (zn_ne (by omega))) (fun ρ' hr hz h0' => ?_)
              rw [← hz] at hb3
              rw [List.all_cons, List.all_cons, Bool.and_eq_true, Bool.and_eq_true] at hsc
              have hx : qD ρ' x = qD ρ x := qd_sc hr hsc.2.1
              rw [hy] at hb3
              intro f hf'
              rcases List.mem_cons.mp hf' with rfl | hf'
              · rw [qd_sub, hx, qd_at]; omega
              · rcases List.mem_cons.mp hf' with rfl | hf'
                · rw [qd_sub, qd_add, qd_cn h0', hx, qd_at]; omega
                · cases hf'
        · cases h
      · split at h
        · rename_i t' hz
          cases h
          exact qhv_i _ (hp (zn_ne ((qnz_ok h0 hf hz).imp id (fun h => ⟨by omega, h.2⟩)))) (hI _)
        · cases h
    · cases h
  · split at h
    · rename_i x r
      cases h
      refine qhv_l (Int32.ofInt (qD ρ x)).toInt64 rfl (fun ρ' _ hz h0' => ?_)
      rw [Int32.toInt_toInt64] at hz
      exact qinr_ok h0' hz (i32_rng _)
    · cases h
  · split at h
    · cases h; exact qhv_i _ rfl (hI _)
    · cases h
  · split at h
    · cases h; exact qhv_i _ rfl (hI _)
    · cases h
  · split at h
    · cases h; exact qhv_i _ rfl (hI _)
    · cases h
  · split at h
    · cases h; exact qhv_l _ rfl (hL _)
    · cases h
  · split at h
    · cases h; exact qhv_l _ rfl (hL _)
    · cases h
  · split at h
    · cases h; exact qhv_l _ rfl (hL _)
    · cases h
  · split at h
    · cases h; exact qhv_l _ rfl (hL _)
    · cases h
  · split at h
    · rename_i y x r
      split at h
      · rename_i t' hz
        cases h
        have hnz : ¬ Int64.ofInt (qD ρ y) = 0 := zn_neL ((qnz_ok h0 hf hz).imp id (fun h => ⟨by omega, h.2⟩))
        refine qhv_l (Int64.ofInt (qD ρ x) / Int64.ofInt (qD ρ y)) ?_ (hL _)
        show (if Int64.ofInt (qD ρ y) = 0 then none else some (1, Value.long (Int64.ofInt (qD ρ x) / Int64.ofInt (qD ρ y)) :: _)) = _
        rw [if_neg hnz]; rfl
      · cases h
    · cases h
  · split at h
    · rename_i y x r
      split at h
      · rename_i t' hz
        cases h
        have hnz : ¬ Int64.ofInt (qD ρ y) = 0 := zn_neL ((qnz_ok h0 hf hz).imp id (fun h => ⟨by omega, h.2⟩))
        refine qhv_l (Int64.ofInt (qD ρ x) - Int64.ofInt (qD ρ x) / Int64.ofInt (qD ρ y) * Int64.ofInt (qD ρ y)) ?_ (hL _)
        show (if Int64.ofInt (qD ρ y) = 0 then none else some (1, Value.long (Int64.ofInt (qD ρ x) - Int64.ofInt (qD ρ x) / Int64.ofInt (qD ρ y) * Int64.ofInt (qD ρ y)) :: _)) = _
        rw [if_neg hnz]; rfl
      · cases h
    · cases h
  · cases h
end
section
/-! LOCALS AND JUMPS, AS FORMS. -/
def qLoc (mx : Nat) (i : Instr) (lv : qLv) (st : List qV) : Option (Nat × qLv × List qV) := match i with
  | .iload_n k => match qGet lv k with | some (0, x) => some (1, lv, (0, x) :: st) | _ => none
  | .iload k => match qGet lv k with | some (0, x) => some (2, lv, (0, x) :: st) | _ => none
  | .lload_n k => match qGet lv k with | some (1, x) => some (1, lv, (1, x) :: st) | _ => none
  | .lload k => match qGet lv k with | some (1, x) => some (2, lv, (1, x) :: st) | _ => none
  | .aload_n k => match qGet lv k with | some (2, x) => some (1, lv, (2, x) :: st) | some (3, x) => (match qKo x with | some c => cond (zNg (1 - c)) none (some (1, lv, (3, x) :: st)) | none => none) | _ => none
  | .aload k => match qGet lv k with | some (2, x) => some (2, lv, (2, x) :: st) | _ => none
  | .istore_n k => match st with | (0, x) :: r => cond (Nat.blt k mx) (some (1, qPut1 lv k (0, x), r)) none | _ => none
  | .istore k => match st with | (0, x) :: r => cond (Nat.blt k mx) (some (2, qPut1 lv k (0, x), r)) none | _ => none
  | .lstore_n k => match st with | (1, x) :: r => cond (Nat.blt (k + 1) mx) (some (1, qPut2 lv k (1, x), r)) none | _ => none
  | .lstore k => match st with | (1, x) :: r => cond (Nat.blt (k + 1) mx) (some (2, qPut2 lv k (1, x), r)) none | _ => none
  | .astore_n k => match st with | (2, x) :: r => cond (Nat.blt k mx) (some (1, qPut1 lv k (2, x), r)) none | _ => none
  | .astore k => match st with | (2, x) :: r => cond (Nat.blt k mx) (some (2, qPut1 lv k (2, x), r)) none | _ => none
  | .iinc k c => match qGet lv k with | some (0, x) => cond (Nat.blt k mx) (some (3, qPut1 lv k (0, qAdd x (qCn c)), st)) none | _ => none
  | _ => none
theorem zcond {α : Type} {b : Bool} {x y : α} (h : cond b (some x) none = some y) : b = true ∧ x = y := by
  cases b with
  | true => exact ⟨rfl, Option.some.inj h⟩
  | false => cases h
theorem zblt {a b : Nat} (h : Nat.blt a b = true) : a < b := Nat.le_of_ble_eq_true h
theorem qloc_ok {mx : Nat} {i : Instr} {lv lv' : qLv} {st st' : List qV} {len : Nat} (h : qLoc mx i lv st = some (len, lv', st')) (ρ : Nat → Int) (h0 : ρ 0 = 1) : pLoc false mx i (sL (qDL ρ lv)) ((qDS ρ st).map sE) = some (len, sL (qDL ρ lv'), (qDS ρ st').map sE) := by
  have hG : ∀ {k : Nat} {v : qV}, qGet lv k = some v → pGet (sL (qDL ρ lv)) k = some (sE (qDV ρ v)) := by
    intro k v hv
    rw [sl_get, ql_get, hv]
    rfl
  have hP : ∀ (k : Nat) (v : qV), pPut1 (sL (qDL ρ lv)) k (sE (qDV ρ v)) = sL (qDL ρ (qPut1 lv k v)) := by
    intro k v
    rw [sl_put1, ql_put1]
  have hP2 : ∀ (k : Nat) (v : qV), pPut2 (sL (qDL ρ lv)) k (sE (qDV ρ v)) = sL (qDL ρ (qPut2 lv k v)) := by
    intro k v
    rw [sl_put2, ql_put2]
  unfold qLoc at h
  unfold pLoc
  split at h
  · split at h
    · rename_i x hg
      cases h
      dsimp only
      rw [hG hg]
      rfl
    · cases h
  · split at h
    · rename_i x hg
      cases h
      dsimp only
      rw [hG hg]
      rfl
    · cases h
  · split at h
    · rename_i x hg
      cases h
      dsimp only
      rw [hG hg]
      rfl
    · cases h
  · split at h
    · rename_i x hg
      cases h
      dsimp only
      rw [hG hg]
      rfl
    · cases h
  · split at h
    · rename_i x hg
      cases h
      dsimp only
      rw [hG hg]
      rfl
    · rename_i x hg
      split at h
      · rename_i c hc
        cases hn : zNg (1 - c) with
        | true => rw [hn] at h; cases h
        | false =>
          rw [hn] at h
          cases h
          have h1 := zng_f hn
          have h2 := qd_ko h0 hc
          dsimp only
          rw [hG hg]
          have hp : pRef (sE (qDV ρ (3, x))) = true := by
            show decide ((UInt32.ofNat (qD ρ x).toNat).toNat < 2) = true
            refine decide_eq_true ?_
            have h3 : (qD ρ x).toNat = 0 ∨ (qD ρ x).toNat = 1 := by omega
            rcases h3 with h3 | h3 <;> rw [h3] <;> decide
          dsimp only
          rw [if_pos hp]
          rfl
      · cases h
    · cases h
  · split at h
    · rename_i x hg
      cases h
      dsimp only
      rw [hG hg]
      rfl
    · cases h
  · split at h
    · rename_i x r
      obtain ⟨h1, h2⟩ := zcond h
      cases h2
      rw [← hP]
      exact if_pos ⟨rfl, zblt h1⟩
    · cases h
  · split at h
    · rename_i x r
      obtain ⟨h1, h2⟩ := zcond h
      cases h2
      rw [← hP]
      exact if_pos ⟨rfl, zblt h1⟩
    · cases h
  · split at h
    · rename_i x r
      obtain ⟨h1, h2⟩ := zcond h
      cases h2
      rw [← hP2]
      exact if_pos (zblt h1)
    · cases h
  · split at h
    · rename_i x r
      obtain ⟨h1, h2⟩ := zcond h
      cases h2
      rw [← hP2]
      exact if_pos (zblt h1)
    · cases h
  · split at h
    · rename_i x r
      obtain ⟨h1, h2⟩ := zcond h
      cases h2
      rw [← hP]
      exact if_pos (zblt h1)
    · cases h
  · split at h
    · rename_i x r
      obtain ⟨h1, h2⟩ := zcond h
      cases h2
      rw [← hP]
      exact if_pos (zblt h1)
    · cases h
  · split at h
    · rename_i x hg
      obtain ⟨h1, h2⟩ := zcond h
      cases h2
      dsimp only
      rw [hG hg]
      show (if _ < mx then some (3, pPut1 (sL (qDL ρ lv)) _ (.int (Int32.ofInt (qD ρ x) + Int32.ofInt _)), _) else none) = _
      rw [if_pos (zblt h1), ← Int32.ofInt_add, ← hP]
      show _ = some (3, pPut1 _ _ (Value.int (Int32.ofInt (qD ρ (qAdd x (qCn _))))), _)
      rw [qd_add, qd_cn h0]
    · cases h
  · cases h
/-! what a jump may lead to: place, stack, new facts -/
abbrev qSu : Type := List (Nat × List qV × List qF)
def qCf (c : Jvm.ClassFile.Cond) (x y : qF) : List qF × List qF := match c with
  | .eq => ([qSub x y, qSub y x], [])
  | .ne => ([], [qSub x y, qSub y x])
  | .lt => ([qSub (qSub y x) (qCn 1)], [qSub x y])
  | .ge => ([qSub x y], [qSub (qSub y x) (qCn 1)])
  | .gt => ([qSub (qSub x y) (qCn 1)], [qSub y x])
  | .le => ([qSub y x], [qSub (qSub x y) (qCn 1)])
def qCn2 (c : Jvm.ClassFile.Cond) (f : qF) (p : List qF × List qF) : List qF × List qF := match c with
  | .eq => (p.1, f :: p.2)
  | .ne => (f :: p.1, p.2)
  | _ => p
def qInt (fs : List qF) (x : qF) (a b : qF) : Bool := qEnt fs (qAdd x (qCn 2147483648)) a && qEnt fs (qSub (qCn 2147483647) x) b
def zCmp (c : Jvm.ClassFile.Cond) (x y : Int) : Bool := match c with
  | .eq => x == y
  | .ne => !(x == y)
  | .lt => zNg (x - y)
  | .ge => !(zNg (x - y))
  | .gt => zNg (y - x)
  | .le => !(zNg (y - x))
/-- a test of two ints: where it leads -/
def qBr (c : Jvm.ClassFile.Cond) (x y : qF) (t e : Nat) (r : List qV) (fs : List qF) (hs : qHs) : Option (qSu × qHs) := match hs with
  | [] :: u => some ([(t, r, []), (e, r, [])], u)
  | [(1, 0)] :: a :: b :: a' :: b' :: u => cond (qInt fs x a b && qInt fs y a' b') (some ([(t, r, (qCf c x y).1), (e, r, (qCf c x y).2)], u)) none
  | [(2, 0)] :: a :: b :: a' :: b' :: f :: u => cond (qInt fs x a b && qInt fs y a' b' && qEnt fs (qSub x y) f) (some ([(t, r, (qCn2 c (qSub (qSub x y) (qCn 1)) (qCf c x y)).1), (e, r, (qCn2 c (qSub (qSub x y) (qCn 1)) (qCf c x y)).2)], u)) none
  | [(3, 0)] :: a :: b :: a' :: b' :: f :: u => cond (qInt fs x a b && qInt fs y a' b' && qEnt fs (qSub y x) f) (some ([(t, r, (qCn2 c (qSub (qSub y x) (qCn 1)) (qCf c x y)).1), (e, r, (qCn2 c (qSub (qSub y x) (qCn 1)) (qCf c x y)).2)], u)) none
  | [(5, 0)] :: a :: b :: a' :: b' :: u => cond (qInt fs x a b && qInt fs y a' b') (match c with
    | .eq => some ([(t, r, [qSub x y, qSub y x]), (e, r, [qSub (qSub x y) (qCn 1)]), (e, r, [qSub (qSub y x) (qCn 1)])], u)
    | .ne => some ([(t, r, [qSub (qSub x y) (qCn 1)]), (t, r, [qSub (qSub y x) (qCn 1)]), (e, r, [qSub x y, qSub y x])], u)
    | _ => none) none
  | [(4, 0)] :: u => match qKo x, qKo y with
    | some a, some b => cond (zIn32 a && zIn32 b) (some ([(cond (zCmp c a b) t e, r, [])], u)) none
    | _, _ => none
  | _ => none
theorem qint_ok {ρ : Nat → Int} (h0 : ρ 0 = 1) {fs : List qF} (hf : ∀ f ∈ fs, 0 ≤ qD ρ f) {x a b : qF} (h : qInt fs x a b = true) : inR (qD ρ x) := by
  unfold qInt at h
  rw [Bool.and_eq_true] at h
  have h1 := qd_ent h0 hf h.1
  have h2 := qd_ent h0 hf h.2
  rw [qd_add, qd_cn h0] at h1
  rw [qd_sub, qd_cn h0] at h2
  exact ⟨by omega, by omega⟩
theorem qcf_ok {ρ : Nat → Int} (h0 : ρ 0 = 1) (c : Jvm.ClassFile.Cond) (x y : qF) : (sCmp c (qD ρ x) (qD ρ y) → ∀ f ∈ (qCf c x y).1, 0 ≤ qD ρ f) ∧ (¬ sCmp c (qD ρ x) (qD ρ y) → ∀ f ∈ (qCf c x y).2, 0 ≤ qD ρ f) := by
  cases c <;> refine ⟨fun h f hf => ?_, fun h f hf => ?_⟩ <;> simp only [qCf, List.mem_cons, List.not_mem_nil, or_false] at hf <;> simp only [sCmp] at h
  · rcases hf with rfl | rfl <;> rw [qd_sub] <;> omega
  · rcases hf with rfl | rfl <;> rw [qd_sub] <;> omega
  · subst hf; rw [qd_sub, qd_sub, qd_cn h0]; omega
  · subst hf; rw [qd_sub]; omega
  · subst hf; rw [qd_sub]; omega
  · subst hf; rw [qd_sub, qd_sub, qd_cn h0]; omega
  · subst hf; rw [qd_sub, qd_sub, qd_cn h0]; omega
  · subst hf; rw [qd_sub]; omega
  · subst hf; rw [qd_sub]; omega
  · subst hf; rw [qd_sub, qd_sub, qd_cn h0]; omega
theorem qcn2_ok {ρ : Nat → Int} {c : Jvm.ClassFile.Cond} {x y f0 : qF} {p : List qF × List qF} (hne : qD ρ x ≠ qD ρ y → 0 ≤ qD ρ f0) (h : (sCmp c (qD ρ x) (qD ρ y) → ∀ f ∈ p.1, 0 ≤ qD ρ f) ∧ (¬ sCmp c (qD ρ x) (qD ρ y) → ∀ f ∈ p.2, 0 ≤ qD ρ f)) : (sCmp c (qD ρ x) (qD ρ y) → ∀ f ∈ (qCn2 c f0 p).1, 0 ≤ qD ρ f) ∧ (¬ sCmp c (qD ρ x) (qD ρ y) → ∀ f ∈ (qCn2 c f0 p).2, 0 ≤ qD ρ f) := by
  cases c
  · refine ⟨h.1, fun hn f hf => ?_⟩
    rcases List.mem_cons.mp hf with rfl | hf
    · exact hne hn
    · exact h.2 hn f hf
  · refine ⟨fun hn f hf => ?_, h.2⟩
    rcases List.mem_cons.mp hf with rfl | hf
    · exact hne hn
    · exact h.1 hn f hf
  all_goals exact h
theorem zcmp_ok {c : Jvm.ClassFile.Cond} {x y : Int} : zCmp c x y = true ↔ sCmp c x y := by
  have hN : ∀ z : Int, zNg z = true ↔ z < 0 := by
    intro z
    cases z with
    | ofNat n => exact ⟨fun h => (nomatch h), fun h => absurd h (Int.not_lt.mpr (Int.natCast_nonneg n))⟩
    | negSucc n => exact ⟨fun _ => Int.negSucc_lt_zero n, fun _ => rfl⟩
  cases c <;> simp only [zCmp, sCmp, Bool.not_eq_true', ← Bool.not_eq_true, hN, beq_iff_eq] <;> omega
/-- of what a test may lead to, one is what it leads to -/
theorem qbr_ok {c : Jvm.ClassFile.Cond} {x y : qF} {t e : Nat} {r : List qV} {fs : List qF} {hs hs' : qHs} {su : qSu} (h : qBr c x y t e r fs hs = some (su, hs')) {ρ : Nat → Int} (h0 : ρ 0 = 1) (hf : ∀ f ∈ fs, 0 ≤ qD ρ f) : ∃ s ∈ su, (if pCmp c (Int32.ofInt (qD ρ x)) (Int32.ofInt (qD ρ y)) = true then t else e) = s.1 ∧ s.2.1 = r ∧ ∀ f ∈ s.2.2, 0 ≤ qD ρ f := by
  have hT : ∀ (p : List qF × List qF), inR (qD ρ x) → inR (qD ρ y) → ((sCmp c (qD ρ x) (qD ρ y) → ∀ f ∈ p.1, 0 ≤ qD ρ f) ∧ (¬ sCmp c (qD ρ x) (qD ρ y) → ∀ f ∈ p.2, 0 ≤ qD ρ f)) → ∃ s ∈ ([(t, r, p.1), (e, r, p.2)] : qSu), (if pCmp c (Int32.ofInt (qD ρ x)) (Int32.ofInt (qD ρ y)) = true then t else e) = s.1 ∧ s.2.1 = r ∧ ∀ f ∈ s.2.2, 0 ≤ qD ρ f := by
    intro p hx hy hp
    by_cases hc : sCmp c (qD ρ x) (qD ρ y)
    · exact ⟨_, List.mem_cons_self, if_pos ((scmp_iff hx hy).mpr hc), rfl, hp.1 hc⟩
    · exact ⟨_, List.mem_cons_of_mem _ List.mem_cons_self, if_neg (fun z => hc ((scmp_iff hx hy).mp z)), rfl, hp.2 hc⟩
  unfold qBr at h
  split at h
  · cases h
    by_cases hc : pCmp c (Int32.ofInt (qD ρ x)) (Int32.ofInt (qD ρ y)) = true
    · exact ⟨_, List.mem_cons_self, if_pos hc, rfl, fun _ hf => nomatch hf⟩
    · exact ⟨_, List.mem_cons_of_mem _ List.mem_cons_self, if_neg hc, rfl, fun _ hf => nomatch hf⟩
  · obtain ⟨h1, h2⟩ := zcond h
    cases h2
    rw [Bool.and_eq_true] at h1
    exact hT _ (qint_ok h0 hf h1.1) (qint_ok h0 hf h1.2) (qcf_ok h0 c x y)
  · obtain ⟨h1, h2⟩ := zcond h
    cases h2
    rw [Bool.and_eq_true, Bool.and_eq_true] at h1
    refine hT _ (qint_ok h0 hf h1.1.1) (qint_ok h0 hf h1.1.2) (qcn2_ok (fun hne => ?_) (qcf_ok h0 c x y))
    have h3 := qd_ent h0 hf h1.2
    rw [qd_sub] at h3
    rw [qd_sub, qd_sub, qd_cn h0]
    omega
  · obtain ⟨h1, h2⟩ := zcond h
    cases h2
    rw [Bool.and_eq_true, Bool.and_eq_true] at h1
    refine hT _ (qint_ok h0 hf h1.1.1) (qint_ok h0 hf h1.1.2) (qcn2_ok (fun hne => ?_) (qcf_ok h0 c x y))
    have h3 := qd_ent h0 hf h1.2
    rw [qd_sub] at h3
    rw [qd_sub, qd_sub, qd_cn h0]
    omega
  · rename_i a b a' b' u
    cases h1 : (qInt fs x a b && qInt fs y a' b') with
    | false => rw [h1] at h; cases h
    | true =>
      rw [h1, cond_true] at h
      rw [Bool.and_eq_true] at h1
      have hx := qint_ok h0 hf h1.1
      have hy := qint_ok h0 hf h1.2
      split at h
      · cases h
        by_cases hc : qD ρ x = qD ρ y
        · refine ⟨_, List.mem_cons_self, if_pos ((scmp_iff (c := .eq) hx hy).mpr hc), rfl, fun f hf' => ?_⟩
          rcases List.mem_cons.mp hf' with rfl | hf'
          · rw [qd_sub]; omega
          · rcases List.mem_cons.mp hf' with rfl | hf'
            · rw [qd_sub]; omega
            · cases hf'
        · by_cases hl : qD ρ x > qD ρ y
          · refine ⟨_, List.mem_cons_of_mem _ List.mem_cons_self, if_neg (fun z => hc ((scmp_iff (c := .eq) hx hy).mp z)), rfl, fun f hf' => ?_⟩
            rcases List.mem_cons.mp hf' with rfl | hf'
            · rw [qd_sub, qd_sub, qd_cn h0]; omega
            · cases hf'
          · refine ⟨_, List.mem_cons_of_mem _ (List.mem_cons_of_mem _ List.mem_cons_self), if_neg (fun z => hc ((scmp_iff (c := .eq) hx hy).mp z)), rfl, fun f hf' => ?_⟩
            rcases List.mem_cons.mp hf' with rfl | hf'
            · rw [qd_sub, qd_sub, qd_cn h0]; omega
            · cases hf'
      · cases h
        by_cases hc : qD ρ x = qD ρ y
        · refine ⟨_, List.mem_cons_of_mem _ (List.mem_cons_of_mem _ List.mem_cons_self), if_neg (fun z => ((scmp_iff (c := .ne) hx hy).mp z) hc), rfl, fun f hf' => ?_⟩
          rcases List.mem_cons.mp hf' with rfl | hf'
          · rw [qd_sub]; omega
          · rcases List.mem_cons.mp hf' with rfl | hf'
            · rw [qd_sub]; omega
            · cases hf'
        · by_cases hl : qD ρ x > qD ρ y
          · refine ⟨_, List.mem_cons_self, if_pos ((scmp_iff (c := .ne) hx hy).mpr hc), rfl, fun f hf' => ?_⟩
            rcases List.mem_cons.mp hf' with rfl | hf'
            · rw [qd_sub, qd_sub, qd_cn h0]; omega
            · cases hf'
          · refine ⟨_, List.mem_cons_of_mem _ List.mem_cons_self, if_pos ((scmp_iff (c := .ne) hx hy).mpr hc), rfl, fun f hf' => ?_⟩
            rcases List.mem_cons.mp hf' with rfl | hf'
            · rw [qd_sub, qd_sub, qd_cn h0]; omega
            · cases hf'
      · cases h
  · split at h
    · rename_i u a b ha hb
      obtain ⟨h1, h2⟩ := zcond h
      cases h2
      rw [Bool.and_eq_true] at h1
      have h3 := zin_f (k := 2147483648) h1.1
      have h4 := zin_f (k := 2147483648) h1.2
      have ea := qd_ko h0 ha
      have eb := qd_ko h0 hb
      have hx : inR (qD ρ x) := by rw [ea]; exact ⟨by omega, by omega⟩
      have hy : inR (qD ρ y) := by rw [eb]; exact ⟨by omega, by omega⟩
      refine ⟨_, List.mem_cons_self, ?_, rfl, fun _ hf => nomatch hf⟩
      cases hz : zCmp c a b with
      | true => exact if_pos ((scmp_iff hx hy).mpr (by rw [ea, eb]; exact zcmp_ok.mp hz))
      | false => exact if_neg (fun z => by
          have := (scmp_iff hx hy).mp z
          rw [ea, eb] at this
          rw [zcmp_ok.mpr this] at hz
          cases hz)
    · cases h
  · cases h
end
section
/-! JUMPS, SWITCHES AND LCMP: what they may lead to. -/
def qTs (pc : Nat) (x : qF) (r : List qV) : Int → List Int → Option qSu
  | _, [] => some []
  | v, o :: os => match pTo pc o, qTs pc x r (v + 1) os with
    | some t, some l => some ((t, r, [qSub x (qCn v), qSub (qCn v) x]) :: l)
    | _, _ => none
def qLs (pc : Nat) (x : qF) (r : List qV) : List (Int × Int) → Option qSu
  | [] => some []
  | q :: os => match pTo pc q.2, qLs pc x r os with
    | some t, some l => some ((t, r, [qSub x (qCn q.1), qSub (qCn q.1) x]) :: l)
    | _, _ => none
/-- where none of the keys is: between them -/
def qLb (x : qF) : Option Int → List qF
  | none => []
  | some b => [qSub x (qCn (b + 1))]
def qLd (t : Nat) (r : List qV) (x : qF) : Option Int → List (Int × Int) → qSu
  | lb, [] => [(t, r, qLb x lb)]
  | lb, q :: os => (t, r, qSub (qCn (q.1 - 1)) x :: qLb x lb) :: qLd t r x (some q.1) os
def qLng (fs : List qF) (x : qF) (a b : qF) : Bool := qEnt fs (qAdd x (qCn 9223372036854775808)) a && qEnt fs (qSub (qCn 9223372036854775807) x) b
def qJp (i : Instr) (pc len : Nat) (st : List qV) (fs : List qF) (hs : qHs) : Option (qSu × qHs) := match i with
  | .goto off => match pTo pc off with
    | some t => cond (Nat.beq len 3) (some ([(t, st, [])], hs)) none
    | none => none
  | .ifCond c off => match st with
    | (0, x) :: r => (match pTo pc off with
      | some t => cond (Nat.beq len 3) (qBr c x [] t (pc + 3) r fs hs) none
      | none => none)
    | _ => none
  | .if_icmp c off => match st with
    | (0, y) :: (0, x) :: r => (match pTo pc off with
      | some t => cond (Nat.beq len 3) (qBr c x y t (pc + 3) r fs hs) none
      | none => none)
    | _ => none
  | .tableswitch d lo hi offs => match st with
    | (0, x) :: r => (match hs with
      | [(1, 0)] :: a :: b :: u => cond (qInt fs x a b && !(zNg ((offs.size : Int) - 1 - (hi - lo)))) (match pTo pc d, qTs pc x r lo offs.toList with
        | some t, some l => some ((t, r, [qSub (qCn (lo - 1)) x]) :: (t, r, [qSub x (qCn (hi + 1))]) :: l, u)
        | _, _ => none) none
      | _ => none)
    | _ => none
  | .lookupswitch d ps => match st with
    | (0, x) :: r => (match hs with
      | [(1, 0)] :: a :: b :: u => cond (qInt fs x a b && (ps.toList.zip (ps.toList.drop 1)).all (fun (a, next) => a.1 < next.1)) (match pTo pc d, qLs pc x r ps.toList with
        | some t, some l => some (qLd t r x none ps.toList ++ l, u)
        | _, _ => none) none
      | _ => none)
    | _ => none
  | .lcmp => match st with
    | (1, y) :: (1, x) :: r => cond (Nat.beq len 1) (match hs with
      | [] :: u => some ([(pc + 1, (0, qCn (-1)) :: r, []), (pc + 1, (0, qCn 0) :: r, []), (pc + 1, (0, qCn 1) :: r, [])], u)
      | [(1, 0)] :: a :: b :: a' :: b' :: u => cond (qLng fs x a b && qLng fs y a' b') (some ([(pc + 1, (0, qCn (-1)) :: r, [qSub (qSub y x) (qCn 1)]), (pc + 1, (0, qCn 0) :: r, [qSub x y, qSub y x]), (pc + 1, (0, qCn 1) :: r, [qSub (qSub x y) (qCn 1)])], u)) none
      | _ => none) none
    | _ => none
  | _ => none
theorem qts_mem {pc : Nat} {x : qF} {r : List qV} : ∀ {os : List Int} {v : Int} {l : qSu}, qTs pc x r v os = some l → ∀ (j : Nat) (o : Int), os[j]? = some o → ∃ t, pTo pc o = some t ∧ (t, r, [qSub x (qCn (v + j)), qSub (qCn (v + j)) x]) ∈ l
  | [], v, l, h, j, o, hj => by simp at hj
  | o' :: os, v, l, h, j, o, hj => by
    unfold qTs at h
    split at h
    · rename_i t l' h1 h2
      cases h
      cases j with
      | zero =>
        cases hj
        refine ⟨t, h1, ?_⟩
        rw [show v + ((0 : Nat) : Int) = v by omega]
        exact List.mem_cons_self
      | succ j =>
        obtain ⟨t', h3, h4⟩ := qts_mem h2 j o hj
        refine ⟨t', h3, List.mem_cons_of_mem _ ?_⟩
        rw [show v + ((j + 1 : Nat) : Int) = v + 1 + j by omega]
        exact h4
    · cases h
theorem qls_off {pc : Nat} {x : qF} {r : List qV} {d k : Int} : ∀ {os : List (Int × Int)} {l : qSu}, qLs pc x r os = some l → Op.lookupswitch.offset os d k = d ∨ ∃ t, pTo pc (Op.lookupswitch.offset os d k) = some t ∧ (t, r, [qSub x (qCn k), qSub (qCn k) x]) ∈ l
  | [], l, h => Or.inl rfl
  | q :: os, l, h => by
    unfold qLs at h
    split at h
    · rename_i t l' h1 h2
      cases h
      obtain ⟨a, o⟩ := q
      rw [Op.lookupswitch.offset_cons]
      by_cases ha : a = k
      · rw [if_pos ha]
        subst ha
        exact Or.inr ⟨t, h1, List.mem_cons_self⟩
      · rw [if_neg ha]
        rcases qls_off (d := d) (k := k) h2 with h3 | ⟨t', h3, h4⟩
        · exact Or.inl h3
        · exact Or.inr ⟨t', h3, List.mem_cons_of_mem _ h4⟩
    · cases h
theorem qls_key {pc : Nat} {x : qF} {r : List qV} {d k : Int} : ∀ {os : List (Int × Int)} {l : qSu}, qLs pc x r os = some l → (∀ q ∈ os, q.1 ≠ k) ∨ ∃ t, pTo pc (Op.lookupswitch.offset os d k) = some t ∧ (t, r, [qSub x (qCn k), qSub (qCn k) x]) ∈ l
  | [], l, h => Or.inl (fun _ h => nomatch h)
  | q :: os, l, h => by
    unfold qLs at h
    split at h
    · rename_i t l' h1 h2
      cases h
      obtain ⟨a, o⟩ := q
      rw [Op.lookupswitch.offset_cons]
      by_cases ha : a = k
      · rw [if_pos ha]
        subst ha
        exact Or.inr ⟨t, h1, List.mem_cons_self⟩
      · rw [if_neg ha]
        rcases qls_key (d := d) (k := k) h2 with h3 | ⟨t', h3, h4⟩
        · refine Or.inl (fun q hq => ?_)
          rcases List.mem_cons.mp hq with rfl | hq
          · exact ha
          · exact h3 q hq
        · exact Or.inr ⟨t', h3, List.mem_cons_of_mem _ h4⟩
    · cases h
theorem qls_no {d k : Int} : ∀ {os : List (Int × Int)}, (∀ q ∈ os, q.1 ≠ k) → Op.lookupswitch.offset os d k = d
  | [], _ => rfl
  | (a, o) :: os, h => by
    rw [Op.lookupswitch.offset_cons, if_neg (h (a, o) List.mem_cons_self)]
    exact qls_no (fun q hq => h q (List.mem_cons_of_mem _ hq))
theorem qld_ok {ρ : Nat → Int} (h0 : ρ 0 = 1) {t : Nat} {r : List qV} {x : qF} : ∀ {os : List (Int × Int)} {lb : Option Int}, (∀ q ∈ os, q.1 ≠ qD ρ x) → (∀ b, lb = some b → b < qD ρ x) → ∃ s ∈ qLd t r x lb os, s.1 = t ∧ s.2.1 = r ∧ ∀ f ∈ s.2.2, 0 ≤ qD ρ f
  | os, lb, hk, hb => by
    have hL : ∀ f ∈ qLb x lb, 0 ≤ qD ρ f := by
      intro f hf
      cases lb with
      | none => cases hf
      | some b =>
        have := hb b rfl
        rcases List.mem_cons.mp hf with rfl | hf
        · rw [qd_sub, qd_cn h0]; omega
        · cases hf
    match os, hk with
    | [], _ => exact ⟨_, List.mem_cons_self, rfl, rfl, hL⟩
    | q :: os, hk =>
      have hq := hk q List.mem_cons_self
      by_cases hlt : qD ρ x < q.1
      · refine ⟨_, List.mem_cons_self, rfl, rfl, fun f hf => ?_⟩
        rcases List.mem_cons.mp hf with rfl | hf
        · rw [qd_sub, qd_cn h0]; omega
        · exact hL f hf
      · obtain ⟨s, h1, h2⟩ := qld_ok h0 (t := t) (r := r) (x := x) (os := os) (lb := some q.1) (fun q' hq' => hk q' (List.mem_cons_of_mem _ hq')) (fun b hb' => by cases hb'; omega)
        exact ⟨s, List.mem_cons_of_mem _ h1, h2⟩
theorem qlng_ok {ρ : Nat → Int} (h0 : ρ 0 = 1) {fs : List qF} (hf : ∀ f ∈ fs, 0 ≤ qD ρ f) {x a b : qF} (h : qLng fs x a b = true) : inL (qD ρ x) := by
  unfold qLng at h
  rw [Bool.and_eq_true] at h
  have h1 := qd_ent h0 hf h.1
  have h2 := qd_ent h0 hf h.2
  rw [qd_add, qd_cn h0] at h1
  rw [qd_sub, qd_cn h0] at h2
  exact ⟨by omega, by omega⟩
theorem qjp_ok {i : Instr} {pc len a : Nat} {st : List qV} {fs : List qF} {hs hs' : qHs} {su : qSu} (h : qJp i pc len st fs hs = some (su, hs')) {ρ : Nat → Int} (h0 : ρ 0 = 1) (hf : ∀ f ∈ fs, 0 ≤ qD ρ f) (M : pMe) (lv : pLv) (L : pHp) : ∃ s ∈ su, pStp M (pc, i, len, a) lv ((qDS ρ st).map sE) L (s.1, lv, (qDS ρ s.2.1).map sE, L) ∧ ∀ f ∈ s.2.2, 0 ≤ qD ρ f := by
  have hJ : ∀ {t : Nat} {st' : List qV}, pJmp i pc len ((qDS ρ st).map sE) = some (t, (qDS ρ st').map sE) → pStp M (pc, i, len, a) lv ((qDS ρ st).map sE) L (t, lv, (qDS ρ st').map sE, L) := fun h => Or.inr (Or.inr (Or.inl ⟨_, _, h, rfl⟩))
  unfold qJp at h
  split at h
  · split at h
    · rename_i t ht
      obtain ⟨h1, h2⟩ := zcond h
      cases h2
      have h1 := Nat.eq_of_beq_eq_true h1
      subst h1
      refine ⟨_, List.mem_cons_self, hJ ?_, fun _ hf => nomatch hf⟩
      show (if (3 : Nat) = 3 then (pTo pc _).map (fun t => (t, _)) else none) = _
      rw [if_pos rfl, ht]
      rfl
    · cases h
  · split at h
    · rename_i c off _ x r
      split at h
      · rename_i t ht
        cases h1 : Nat.beq len 3 with
        | false => rw [h1] at h; cases h
        | true =>
          rw [h1] at h
          have h1 := Nat.eq_of_beq_eq_true h1
          subst h1
          obtain ⟨s, h2, h3, h4, h5⟩ := qbr_ok h h0 hf
          refine ⟨s, h2, hJ ?_, h5⟩
          show (if (3 : Nat) = 3 then (pTo pc off).map (fun t => (if pCmp c (Int32.ofInt (qD ρ x)) 0 = true then t else pc + 3, (qDS ρ r).map sE)) else none) = _
          rw [if_pos rfl, ht, h4, ← h3]
          rfl
      · cases h
    · cases h
  · split at h
    · rename_i c off _ y x r
      split at h
      · rename_i t ht
        cases h1 : Nat.beq len 3 with
        | false => rw [h1] at h; cases h
        | true =>
          rw [h1] at h
          have h1 := Nat.eq_of_beq_eq_true h1
          subst h1
          obtain ⟨s, h2, h3, h4, h5⟩ := qbr_ok h h0 hf
          refine ⟨s, h2, hJ ?_, h5⟩
          show (if (3 : Nat) = 3 then (pTo pc off).map (fun t => (if pCmp c (Int32.ofInt (qD ρ x)) (Int32.ofInt (qD ρ y)) = true then t else pc + 3, (qDS ρ r).map sE)) else none) = _
          rw [if_pos rfl, ht, h4, ← h3]
          rfl
      · cases h
    · cases h
  · split at h
    · rename_i d lo hi offs _ x r
      split at h
      · rename_i a' b u
        cases h1 : (qInt fs x a' b && !(zNg ((offs.size : Int) - 1 - (hi - lo)))) with
        | false => rw [h1] at h; cases h
        | true =>
          rw [h1, cond_true] at h
          rw [Bool.and_eq_true, Bool.not_eq_true'] at h1
          have hx := qint_ok h0 hf h1.1
          have hsz := zng_f h1.2
          split at h
          · rename_i t l ht hl
            cases h
            by_cases hc : qD ρ x < lo ∨ hi < qD ρ x
            · have hgo : pJmp (.tableswitch d lo hi offs) pc len ((qDS ρ ((0, x) :: r)).map sE) = some (t, (qDS ρ r).map sE) := by
                show (if (Int32.ofInt (qD ρ x)).toInt < lo ∨ hi < (Int32.ofInt (qD ρ x)).toInt then (pTo pc d).map (fun t => (t, (qDS ρ r).map sE)) else match offs[((Int32.ofInt (qD ρ x)).toInt - lo).toNat]? with | some o => (pTo pc o).map (fun t => (t, (qDS ρ r).map sE)) | none => none) = _
                rw [inR_to hx, if_pos hc, ht]
                rfl
              rcases hc with hc | hc
              · refine ⟨_, List.mem_cons_self, hJ hgo, fun f hf => ?_⟩
                rcases List.mem_cons.mp hf with rfl | hf
                · rw [qd_sub, qd_cn h0]; omega
                · cases hf
              · refine ⟨_, List.mem_cons_of_mem _ List.mem_cons_self, hJ hgo, fun f hf => ?_⟩
                rcases List.mem_cons.mp hf with rfl | hf
                · rw [qd_sub, qd_cn h0]; omega
                · cases hf
            · have hi' : (qD ρ x - lo).toNat < offs.size := by omega
              have ho : offs[(qD ρ x - lo).toNat]? = some offs[(qD ρ x - lo).toNat] := Array.getElem?_eq_getElem hi'
              obtain ⟨t', h3, h4⟩ := qts_mem hl (qD ρ x - lo).toNat _ (by rw [Array.getElem?_toList]; exact ho)
              refine ⟨_, List.mem_cons_of_mem _ (List.mem_cons_of_mem _ h4), hJ ?_, ?_⟩
              · show (if (Int32.ofInt (qD ρ x)).toInt < lo ∨ hi < (Int32.ofInt (qD ρ x)).toInt then (pTo pc d).map (fun t => (t, (qDS ρ r).map sE)) else match offs[((Int32.ofInt (qD ρ x)).toInt - lo).toNat]? with | some o => (pTo pc o).map (fun t => (t, (qDS ρ r).map sE)) | none => none) = _
                rw [inR_to hx, if_neg hc, ho]
                show (pTo pc _).map _ = _
                rw [h3]
                rfl
              · intro f hf'
                rcases List.mem_cons.mp hf' with rfl | hf'
                · rw [qd_sub, qd_cn h0]; omega
                · rcases List.mem_cons.mp hf' with rfl | hf'
                  · rw [qd_sub, qd_cn h0]; omega
                  · cases hf'
          · cases h
      · cases h
    · cases h
  · split at h
    · rename_i d ps _ x r
      split at h
      · rename_i a' b u
        cases h1 : (qInt fs x a' b && (ps.toList.zip (ps.toList.drop 1)).all (fun (a, next) => a.1 < next.1)) with
        | false => rw [h1] at h; cases h
        | true =>
          rw [h1, cond_true] at h
          rw [Bool.and_eq_true] at h1
          have hx := qint_ok h0 hf h1.1
          have hp : ∀ t, pTo pc (Op.lookupswitch.offset ps.toList d (qD ρ x)) = some t → pJmp (.lookupswitch d ps) pc len ((qDS ρ ((0, x) :: r)).map sE) = some (t, (qDS ρ r).map sE) := by
            intro t ht
            show (if (ps.toList.zip (ps.toList.drop 1)).all (fun (a, next) => a.1 < next.1) = true then (pTo pc (Op.lookupswitch.offset ps.toList d (Int32.ofInt (qD ρ x)).toInt)).map (fun t => (t, (qDS ρ r).map sE)) else none) = _
            rw [if_pos h1.2, inR_to hx, ht]
            rfl
          split at h
          · rename_i t l ht hl
            cases h
            rcases qls_key (d := d) (k := qD ρ x) hl with h3 | ⟨t', h3, h4⟩
            · obtain ⟨s, h5, h6, h7, h8⟩ := qld_ok h0 (t := t) (r := r) (x := x) (lb := none) h3 (fun _ h => nomatch h)
              refine ⟨s, List.mem_append_left _ h5, ?_, h8⟩
              rw [h6, h7]
              exact hJ (hp _ (by rw [qls_no h3]; exact ht))
            · refine ⟨_, List.mem_append_right _ h4, hJ (hp _ h3), ?_⟩
              intro f hf'
              rcases List.mem_cons.mp hf' with rfl | hf'
              · rw [qd_sub, qd_cn h0]; omega
              · rcases List.mem_cons.mp hf' with rfl | hf'
                · rw [qd_sub, qd_cn h0]; omega
                · cases hf'
          · cases h
      · cases h
    · cases h
  · split at h
    · rename_i y x r
      cases h1 : Nat.beq len 1 with
      | false => rw [h1] at h; cases h
      | true =>
        rw [h1, cond_true] at h
        have h1 := Nat.eq_of_beq_eq_true h1
        subst h1
        have hS : ∀ c : Int, lg_cmp (Int64.ofInt (qD ρ x)) (Int64.ofInt (qD ρ y)) = Int32.ofInt c → pStp M (pc, .lcmp, 1, a) lv ((qDS ρ ((1, y) :: (1, x) :: r)).map sE) L (pc + 1, lv, (qDS ρ ((0, qCn c) :: r)).map sE, L) := by
          intro c hc
          refine Or.inl ⟨_, ?_, rfl⟩
          show some (1, Value.int (lg_cmp (Int64.ofInt (qD ρ x)) (Int64.ofInt (qD ρ y))) :: _) = some (1, sE (0, qD ρ (qCn c)) :: _)
          rw [hc, qd_cn h0]
          rfl
        split at h
        · cases h
          rcases zn_cmp3 (Int64.ofInt (qD ρ x)) (Int64.ofInt (qD ρ y)) with h2 | h2 | h2
          · exact ⟨_, List.mem_cons_self, hS _ h2, fun _ hf => nomatch hf⟩
          · exact ⟨_, List.mem_cons_of_mem _ List.mem_cons_self, hS _ h2, fun _ hf => nomatch hf⟩
          · exact ⟨_, List.mem_cons_of_mem _ (List.mem_cons_of_mem _ List.mem_cons_self), hS _ h2, fun _ hf => nomatch hf⟩
        · obtain ⟨h1, h2⟩ := zcond h
          cases h2
          rw [Bool.and_eq_true] at h1
          have h3 := zn_cmp (qlng_ok h0 hf h1.1) (qlng_ok h0 hf h1.2)
          by_cases hlt : qD ρ y < qD ρ x
          · rw [if_pos hlt] at h3
            refine ⟨_, List.mem_cons_of_mem _ (List.mem_cons_of_mem _ List.mem_cons_self), hS _ h3, fun f hf' => ?_⟩
            rcases List.mem_cons.mp hf' with rfl | hf'
            · rw [qd_sub, qd_sub, qd_cn h0]; omega
            · cases hf'
          · rw [if_neg hlt] at h3
            by_cases heq : qD ρ x = qD ρ y
            · rw [if_pos heq] at h3
              refine ⟨_, List.mem_cons_of_mem _ List.mem_cons_self, hS _ h3, fun f hf' => ?_⟩
              rcases List.mem_cons.mp hf' with rfl | hf'
              · rw [qd_sub]; omega
              · rcases List.mem_cons.mp hf' with rfl | hf'
                · rw [qd_sub]; omega
                · cases hf'
            · rw [if_neg heq] at h3
              refine ⟨_, List.mem_cons_self, hS _ h3, fun f hf' => ?_⟩
              rcases List.mem_cons.mp hf' with rfl | hf'
              · rw [qd_sub, qd_sub, qd_cn h0]; omega
              · cases hf'
        · cases h
    · cases h
  · cases h
end
section
/-! THE HEAP, AS FORMS: fields. A result: length, stack, new facts, what is known of the memory, the next new name, hints. -/
abbrev qMr : Type := Nat × List qV × List qF × qMm × Nat × qHs
def qFind (mm : qMm) (o k : Nat) : Option qF := (mm.find? (fun q => Nat.beq q.1 o && Nat.beq q.2.1 k)).map (fun q => q.2.2)
theorem qfind_ok {ρ : Nat → Int} {M : sM} {mm : qMm} {o k : Nat} {f : qF} (hm : ∀ q ∈ mm, M q.1 (zIx ρ q.2.1) = qD ρ q.2.2) (h : qFind mm o k = some f) : M o (zIx ρ k) = qD ρ f := by
  unfold qFind at h
  obtain ⟨q, hq, rfl⟩ := Option.map_eq_some_iff.mp h
  have h1 := List.find?_some hq
  have h2 := List.mem_of_find?_eq_some hq
  rw [Bool.and_eq_true] at h1
  have e1 := Nat.eq_of_beq_eq_true h1.1
  have e2 := Nat.eq_of_beq_eq_true h1.2
  rw [← e1, ← e2]
  exact hm q h2
def qRf (r : Option (Int × Int)) (n : Nat) : List qF := match r with
  | some (lo, hi) => [qSub [(1, n)] (qCn lo), qSub (qCn hi) [(1, n)]]
  | none => []
theorem qrf_ok {ρ : Nat → Int} (h0 : ρ 0 = 1) {r : Option (Int × Int)} {n : Nat} {z : Int} (hn : ρ n = z) (hz : ∀ q, r = some q → q.1 ≤ z ∧ z ≤ q.2) : ∀ f ∈ qRf r n, 0 ≤ qD ρ f := by
  intro f hf
  cases r with
  | none => cases hf
  | some q =>
    obtain ⟨lo, hi⟩ := q
    have h := hz _ rfl
    rcases List.mem_cons.mp hf with rfl | hf
    · rw [qd_sub, qd_cn h0, qd_at, hn]; omega
    · rcases List.mem_cons.mp hf with rfl | hf
      · rw [qd_sub, qd_cn h0, qd_at, hn]; omega
      · cases hf
section ZM
variable {lay : List sCl} {M : sM} {J : pHp} {c : Nat} {ini : Bool} {a ix o : Nat} {c1 : sCl} {rest : List Value} {p : Nat × Nat}
theorem zm_get (hl : lay[o]? = some c1) (hc : c1.1 = a / 100 ∧ c1.1 < 13 ∧ a % 100 < pN c1.1) (hq : c1.2[a % 100]? = some p) : pMem false c ini (.getfield ix) a (Value.ref o :: rest) (sHp lay M ++ J) = some (3, sE (sC p (M o (a % 100))) :: rest, sHp lay M ++ J) := by
  show (match (sHp lay M ++ J)[o]? with
    | some q => if q.1 = a / 100 ∧ q.1 < 13 ∧ a % 100 < pN q.1 then (q.2[a % 100]?).map (fun v => (3, v :: rest, sHp lay M ++ J)) else none
    | none => none) = _
  rw [shj_at hl]
  show (if c1.1 = a / 100 ∧ c1.1 < 13 ∧ a % 100 < pN c1.1 then ((sCell M o c1).2[a % 100]?).map (fun v => (3, v :: rest, sHp lay M ++ J)) else none) = _
  rw [if_pos hc, scell_at hq]
  rfl
theorem zm_put {v : Int} (hl : lay[o]? = some c1) (hc : c1.1 = a / 100 ∧ c1.1 < 13) (hq : c1.2[a % 100]? = some p) (hf : pFit false c ini c1.1 (a % 100) (sE (sC p v)) = true) : pMem false c ini (.putfield ix) a (sE (sC p v) :: Value.ref o :: rest) (sHp lay M ++ J) = some (3, rest, sHp lay (sU M o (a % 100) v) ++ J) := by
  show (match (sHp lay M ++ J)[o]? with
    | some q' => if q'.1 = a / 100 ∧ q'.1 < 13 ∧ a % 100 < q'.2.length ∧ pFit false c ini q'.1 (a % 100) (sE (sC p v)) = true then some (3, rest, (sHp lay M ++ J).set o (q'.1, q'.2.set (a % 100) (sE (sC p v)))) else none
    | none => none) = _
  rw [shj_at hl]
  have hlen : a % 100 < (sCell M o c1).2.length := by rw [scell_len]; exact (List.getElem?_eq_some_iff.mp hq).1
  show (if c1.1 = a / 100 ∧ c1.1 < 13 ∧ a % 100 < (sCell M o c1).2.length ∧ pFit false c ini c1.1 (a % 100) (sE (sC p v)) = true then some (3, rest, (sHp lay M ++ J).set o ((sCell M o c1).1, (sCell M o c1).2.set (a % 100) (sE (sC p v)))) else none) = _
  rw [if_pos ⟨hc.1, hc.2, hlen, hf⟩, shj_set hl hq]
theorem zm_pld {t m kd : Nat} {x : Int} (h0 : 0 ≤ x) (h1 : x < m) (hn : m ≤ 4096) : pLd (sCell M o (t, List.replicate m (kd, 0))).2 (Int32.ofInt x) = some (sE (sC (kd, 0) (M o x.toNat))) := by
  unfold pLd
  rw [scell_len, List.length_replicate, six_of h0 h1 hn]
  exact scell_at (by rw [List.getElem?_replicate, if_pos (by omega)])
theorem zm_ld {i : Instr} {t m kd : Nat} {x : Int} (hi : (i = .iaload ∧ t = 20) ∨ (i = .baload ∧ (t = 21 ∨ t = 22)) ∨ (i = .laload ∧ t = 23)) (hl : lay[o]? = some (t, List.replicate m (kd, 0))) (h0 : 0 ≤ x) (h1 : x < m) (hn : m ≤ 4096) : pMem false c ini i a (Value.int (Int32.ofInt x) :: Value.ref o :: rest) (sHp lay M ++ J) = some (1, sE (sC (kd, 0) (M o x.toNat)) :: rest, sHp lay M ++ J) := by
  have hp := zm_pld (M := M) (o := o) (t := t) (kd := kd) h0 h1 hn
  rcases hi with ⟨rfl, ht⟩ | ⟨rfl, ht⟩ | ⟨rfl, ht⟩
  · show (match (sHp lay M ++ J)[o]? with
      | some q => if q.1 = 20 then (pLd q.2 (Int32.ofInt x)).map (fun v => (1, v :: rest, sHp lay M ++ J)) else none
      | none => none) = _
    rw [shj_at hl]
    show (if t = 20 then (pLd (sCell M o (t, List.replicate m (kd, 0))).2 (Int32.ofInt x)).map (fun v => (1, v :: rest, sHp lay M ++ J)) else none) = _
    rw [if_pos ht, hp]
    rfl
  · show (match (sHp lay M ++ J)[o]? with
      | some q => if q.1 = 21 ∨ q.1 = 22 then (pLd q.2 (Int32.ofInt x)).map (fun v => (1, v :: rest, sHp lay M ++ J)) else none
      | none => none) = _
    rw [shj_at hl]
    show (if t = 21 ∨ t = 22 then (pLd (sCell M o (t, List.replicate m (kd, 0))).2 (Int32.ofInt x)).map (fun v => (1, v :: rest, sHp lay M ++ J)) else none) = _
    rw [if_pos ht, hp]
    rfl
  · show (match (sHp lay M ++ J)[o]? with
      | some q => if q.1 = 23 then (pLd q.2 (Int32.ofInt x)).map (fun v => (1, v :: rest, sHp lay M ++ J)) else none
      | none => none) = _
    rw [shj_at hl]
    show (if t = 23 then (pLd (sCell M o (t, List.replicate m (kd, 0))).2 (Int32.ofInt x)).map (fun v => (1, v :: rest, sHp lay M ++ J)) else none) = _
    rw [if_pos ht, hp]
    rfl
/-- an array is written: what is stored, as a number -/
theorem zm_st {i : Instr} {t m kd : Nat} {x v : Int} {w : Value} (hi : (i = .iastore ∧ t = 20 ∧ ∃ u, w = .int u ∧ sE (sC (kd, 0) v) = w) ∨ (i = .bastore ∧ (t = 21 ∨ t = 22) ∧ ∃ u, w = .int u ∧ sE (sC (kd, 0) v) = narrow (pAty t) w) ∨ (i = .lastore ∧ t = 23 ∧ ∃ u, w = .long u ∧ sE (sC (kd, 0) v) = w)) (hl : lay[o]? = some (t, List.replicate m (kd, 0))) (h0 : 0 ≤ x) (h1 : x < m) (hn : m ≤ 4096) : pMem false c ini i a (w :: Value.int (Int32.ofInt x) :: Value.ref o :: rest) (sHp lay M ++ J) = some (1, rest, sHp lay (sU M o x.toNat v) ++ J) := by
  have hx : pIx (Int32.ofInt x) (sCell M o (t, List.replicate m (kd, 0))).2.length = some x.toNat := by
    rw [scell_len, List.length_replicate, six_of h0 h1 hn]
  have h9 := shj_set (lay := lay) (M := M) (J := J) (k := x.toNat) (q := (kd, 0)) (v := v) hl (by rw [List.getElem?_replicate, if_pos (by omega)])
  rcases hi with ⟨rfl, ht, u, rfl, hv⟩ | ⟨rfl, ht, u, rfl, hv⟩ | ⟨rfl, ht, u, rfl, hv⟩
  · show (match (sHp lay M ++ J)[o]? with
      | some q => if q.1 = 20 ∧ pInt false (.int u) = true then (pIx (Int32.ofInt x) q.2.length).map (fun j => (1, rest, (sHp lay M ++ J).set o (q.1, q.2.set j (.int u)))) else none
      | none => none) = _
    rw [shj_at hl]
    show (if t = 20 ∧ pInt false (.int u) = true then (pIx (Int32.ofInt x) (sCell M o (t, List.replicate m (kd, 0))).2.length).map (fun j => (1, rest, (sHp lay M ++ J).set o ((sCell M o (t, List.replicate m (kd, 0))).1, (sCell M o (t, List.replicate m (kd, 0))).2.set j (.int u)))) else none) = _
    rw [if_pos ⟨ht, rfl⟩, hx, ← h9, hv]
    rfl
  · show (match (sHp lay M ++ J)[o]? with
      | some q => if (q.1 = 21 ∨ q.1 = 22) ∧ pInt false (.int u) = true then (pIx (Int32.ofInt x) q.2.length).map (fun j => (1, rest, (sHp lay M ++ J).set o (q.1, q.2.set j (narrow (pAty q.1) (.int u))))) else none
      | none => none) = _
    rw [shj_at hl]
    show (if (t = 21 ∨ t = 22) ∧ pInt false (.int u) = true then (pIx (Int32.ofInt x) (sCell M o (t, List.replicate m (kd, 0))).2.length).map (fun j => (1, rest, (sHp lay M ++ J).set o ((sCell M o (t, List.replicate m (kd, 0))).1, (sCell M o (t, List.replicate m (kd, 0))).2.set j (narrow (pAty t) (.int u))))) else none) = _
    rw [if_pos ⟨ht, rfl⟩, hx, ← h9, hv]
    rfl
  · show (match (sHp lay M ++ J)[o]? with
      | some q => if q.1 = 23 then (pIx (Int32.ofInt x) q.2.length).map (fun j => (1, rest, (sHp lay M ++ J).set o (q.1, q.2.set j (.long u)))) else none
      | none => none) = _
    rw [shj_at hl]
    show (if t = 23 then (pIx (Int32.ofInt x) (sCell M o (t, List.replicate m (kd, 0))).2.length).map (fun j => (1, rest, (sHp lay M ++ J).set o ((sCell M o (t, List.replicate m (kd, 0))).1, (sCell M o (t, List.replicate m (kd, 0))).2.set j (.long u)))) else none) = _
    rw [if_pos ht, hx, ← h9, hv]
    rfl
theorem zm_ald {t b m : Nat} {x : Int} (ht : t = 24 ∨ t = 25) (hl : lay[o]? = some (t, (List.range m).map (fun j => (2, b + j)))) (h0 : 0 ≤ x) (h1 : x < m) (hn : m ≤ 4096) : pMem false c ini .aaload a (Value.int (Int32.ofInt x) :: Value.ref o :: rest) (sHp lay M ++ J) = some (1, Value.ref (b + x.toNat) :: rest, sHp lay M ++ J) := by
  show (match (sHp lay M ++ J)[o]? with
    | some q => if q.1 = 24 ∨ q.1 = 25 then (pLd q.2 (Int32.ofInt x)).map (fun v => (1, v :: rest, sHp lay M ++ J)) else none
    | none => none) = _
  rw [shj_at hl]
  show (if t = 24 ∨ t = 25 then (pLd (sCell M o (t, (List.range m).map (fun j => (2, b + j)))).2 (Int32.ofInt x)).map (fun v => (1, v :: rest, sHp lay M ++ J)) else none) = _
  rw [if_pos ht]
  unfold pLd
  rw [scell_len, List.length_map, List.length_range, six_of h0 h1 hn]
  show Option.map _ ((sCell M o (t, (List.range m).map (fun j => (2, b + j)))).2[x.toNat]?) = _
  rw [scell_at (q := (2, b + x.toNat)) (by
    rw [List.getElem?_map, List.getElem?_range (by omega)]
    rfl)]
  rfl
end ZM
/-- is a number within a range -/
def qRk (fs : List qF) (r : Option (Int × Int)) (v : qF) (hs : qHs) : Option qHs := match r with
  | none => some hs
  | some (lo, hi) => match hs with
    | a :: b :: t => cond (qEnt fs (qSub v (qCn lo)) a && qEnt fs (qSub (qCn hi) v) b) (some t) none
    | _ => none
theorem qrk_ok {ρ : Nat → Int} (h0 : ρ 0 = 1) {fs : List qF} (hf : ∀ f ∈ fs, 0 ≤ qD ρ f) {r : Option (Int × Int)} {v : qF} {hs t : qHs} (h : qRk fs r v hs = some t) : ∀ q, r = some q → q.1 ≤ qD ρ v ∧ qD ρ v ≤ q.2 := by
  intro q hq
  subst hq
  obtain ⟨lo, hi⟩ := q
  unfold qRk at h
  split at h
  · cases ‹_ = none›
  · rename_i lo' hi' he
    cases he
    split at h
    · obtain ⟨h1, -⟩ := zcond h
      rw [Bool.and_eq_true] at h1
      have h2 := qd_ent h0 hf h1.1
      have h3 := qd_ent h0 hf h1.2
      rw [qd_sub, qd_cn h0] at h2 h3
      exact ⟨by omega, by omega⟩
    · cases h
/-- a cell's number, if it is known -/
def qRef (x : qF) : Option Nat := match qKo x with | some c => cond (zNg c) none (some c.toNat) | none => none
theorem qref_ok {ρ : Nat → Int} (h0 : ρ 0 = 1) {x : qF} {o : Nat} (h : qRef x = some o) : qD ρ x = (o : Int) := by
  unfold qRef at h
  split at h
  · rename_i c hc
    cases hn : zNg c with
    | true => rw [hn] at h; cases h
    | false =>
      rw [hn] at h
      cases h
      have := zng_f hn
      rw [qd_ko h0 hc]
      omega
  · cases h
def qGf (a : Nat) (st : List qV) (fs : List qF) (mm : qMm) (n : Nat) (hs : qHs) : Option qMr := match st with
  | (2, x) :: r => (match qRef x with
    | some o => (match sLay[o]? with
      | some c => cond (Nat.beq c.1 (a / 100) && (Nat.blt c.1 13 && Nat.blt (a % 100) (pN c.1))) (match c.2[a % 100]? with
        | some (2, q) => some (3, (2, qCn (q : Int)) :: r, [], mm, n, hs)
        | some (3, _) => (match qFind mm o (a % 100) with | some f => some (3, (2, f) :: r, [], mm, n, hs) | none => none)
        | some (t, _) => cond (Nat.blt t 2) (match qFind mm o (a % 100) with
          | some f => some (3, (t, f) :: r, [], mm, n, hs)
          | none => some (3, (t, [(1, n)]) :: r, qRf (sRg o (a % 100)) n, (o, a % 100, [(1, n)]) :: mm, n + 1, hs)) none
        | none => none) none
      | none => none)
    | none => (match hs with
      | [(j, 0)] :: u :: v :: t => (match sFm[j.toNat]? with
        | some (b, m, c, w) => cond (qEnt fs (qSub x (qCn (b : Int))) u && (qEnt fs (qSub (qCn ((b : Int) + m - 1)) x) v && (Nat.beq c (a / 100) && (Nat.blt c 13 && (Nat.blt (a % 100) (pN c) && Nat.blt (a % 100) w))))) (some (3, (0, [(1, n)]) :: r, qRf (sRg b (a % 100)) n, mm, n + 1, t)) none
        | none => none)
      | _ => none))
  | _ => none
theorem sfm_at {b m c w : Nat} (h : (b, m, c, w) ∈ sFm) {o : Nat} (h1 : b ≤ o) (h2 : o < b + m) : sLay[o]? = some (c, List.replicate w (0, 0)) ∧ ∀ k, k < w → sRg o k = sRg b k := by
  have := List.all_eq_true.mp (List.all_eq_true.mp sfm_ok _ h) (o - b) (List.mem_range.mpr (by show o - b < m; omega))
  rw [Bool.and_eq_true] at this
  have e : b + (o - b) = o := by omega
  have h3 : sLay[b + (o - b)]? = some (c, List.replicate w (0, 0)) := of_decide_eq_true this.1
  rw [e] at h3
  refine ⟨h3, fun k hk => ?_⟩
  have h4 := List.all_eq_true.mp this.2 k (List.mem_range.mpr hk)
  have h5 : sRg (b + (o - b)) k = sRg b k := of_decide_eq_true h4
  rw [e] at h5
  exact h5
section MEM
variable {d K : Nat} {J : pHp} {M0 : sM} {S : sSt}
/-- one instruction of the heap does what its result says -/
def qMok (c : Nat) (ini : Bool) (i : Instr) (a : Nat) (J : pHp) (M0 : sM) (S : sSt) (st : List qV) (fs : List qF) (mm : qMm) (n : Nat) (q : qMr) : Prop :=
  ∀ (ρ : Nat → Int) (M : sM), 0 < n → ρ 0 = 1 → st.all (fun v => qSc n v.2) = true → (∀ q ∈ mm, (qSk n q.2.1 && qSc n q.2.2) = true) → (∀ f ∈ fs, 0 ≤ qD ρ f) → (∀ q ∈ mm, M q.1 (zIx ρ q.2.1) = qD ρ q.2.2) → sI M → sF S M0 M →
    ∃ (ρ1 : Nat → Int) (M' : sM), pMem false c ini i a ((qDS ρ st).map sE) (sHp sLay M ++ J) = some (q.1, (qDS (qUp ρ ρ1 n) q.2.1).map sE, sHp sLay M' ++ J) ∧ (∀ f ∈ q.2.2.1, 0 ≤ qD (qUp ρ ρ1 n) f) ∧ (∀ p ∈ q.2.2.2.1, M' p.1 (zIx (qUp ρ ρ1 n) p.2.1) = qD (qUp ρ ρ1 n) p.2.2) ∧ sI M' ∧ sF S M0 M'
theorem qup_self (ρ : Nat → Int) (n : Nat) : qUp ρ ρ n = ρ := by
  funext a
  unfold qUp
  cases Nat.blt a n <;> rfl
theorem qgf_ok {c : Nat} {ini : Bool} {ix a n : Nat} {st : List qV} {fs : List qF} {mm : qMm} {hs : qHs} {q : qMr} (h : qGf a st fs mm n hs = some q) : qMok c ini (.getfield ix) a J M0 S st fs mm n q := by
  intro ρ M hn h0 hsc hsm hf hm hI hF
  have hZ : ∀ ρ : Nat → Int, zIx ρ (a % 100) = a % 100 := fun ρ => zix_lt (by omega)
  have hFi : ∀ {o : Nat} {f : qF}, qFind mm o (a % 100) = some f → M o (a % 100) = qD ρ f := fun h => by
    have := qfind_ok hm h
    rw [hZ] at this
    exact this
  have hK : ∀ {ρ' : Nat → Int}, (∀ e, e < n → ρ' e = ρ e) → ∀ p ∈ mm, M p.1 (zIx ρ' p.2.1) = qD ρ' p.2.2 := fun hr p hp => by
    have h6 := hsm p hp
    rw [Bool.and_eq_true] at h6
    rw [qd_sc hr h6.2, zix_sc hr h6.1]
    exact hm p hp
  have hP : ∀ {o : Nat} {c1 : sCl} {r : List qV} {p : Nat × Nat}, sLay[o]? = some c1 → (Nat.beq c1.1 (a / 100) && (Nat.blt c1.1 13 && Nat.blt (a % 100) (pN c1.1))) = true → c1.2[a % 100]? = some p → pMem false c ini (.getfield ix) a (Value.ref o :: (qDS ρ r).map sE) (sHp sLay M ++ J) = some (3, sE (sC p (M o (a % 100))) :: (qDS ρ r).map sE, sHp sLay M ++ J) := fun hl hc hq => by
    rw [Bool.and_eq_true, Bool.and_eq_true] at hc
    exact zm_get hl ⟨Nat.eq_of_beq_eq_true hc.1, zblt hc.2.1, zblt hc.2.2⟩ hq
  unfold qGf at h
  split at h
  · rename_i x r
    rw [List.all_cons, Bool.and_eq_true] at hsc
    split at h
    · rename_i o ho
      have hx := qref_ok h0 ho
      have hS : (qDS ρ ((2, x) :: r)).map sE = Value.ref o :: (qDS ρ r).map sE := by
        show Value.ref (qD ρ x).toNat :: _ = _
        rw [hx]; rfl
      rw [hS]
      split at h
      · rename_i c1 hl
        cases hc : (Nat.beq c1.1 (a / 100) && (Nat.blt c1.1 13 && Nat.blt (a % 100) (pN c1.1))) with
        | false => rw [hc] at h; cases h
        | true =>
          rw [hc, cond_true] at h
          split at h
          · rename_i p hq
            cases h
            refine ⟨ρ, M, ?_, fun _ hf => (nomatch hf), ?_, hI, hF⟩
            · rw [hP hl hc hq, qup_self]
              show some (3, Value.ref p :: _, _) = some (3, Value.ref (qD ρ (qCn (p : Int))).toNat :: _, _)
              rw [qd_cn h0]
              rfl
            · rw [qup_self]; exact hm
          · rename_i p hq
            split at h
            · rename_i f hfi
              cases h
              refine ⟨ρ, M, ?_, fun _ hf => (nomatch hf), ?_, hI, hF⟩
              · rw [hP hl hc hq, qup_self]
                show some (3, sE (2, M o (a % 100)) :: _, _) = some (3, sE (2, qD ρ f) :: _, _)
                rw [hFi hfi]
                rfl
              · rw [qup_self]; exact hm
            · cases h
          · rename_i t p _ _ hq
            cases ht : Nat.blt t 2 with
            | false => rw [ht] at h; cases h
            | true =>
              rw [ht, cond_true] at h
              have ht := zblt ht
              have hC : ∀ z : Int, sC (t, p) z = (t, z) := by
                intro z
                match t, ht with
                | 0, _ => rfl
                | 1, _ => rfl
              split at h
              · rename_i f hfi
                cases h
                refine ⟨ρ, M, ?_, fun _ hf => (nomatch hf), ?_, hI, hF⟩
                · rw [hP hl hc hq, qup_self, hC, hFi hfi]
                  rfl
                · rw [qup_self]; exact hm
              · cases h
                have hr : ∀ b, b < n → qUp ρ (fun _ => M o (a % 100)) n b = ρ b := fun b h => qup_lt h
                have hnn : qUp ρ (fun _ => M o (a % 100)) n n = M o (a % 100) := qup_ge (Nat.le_refl n)
                refine ⟨fun _ => M o (a % 100), M, ?_, ?_, ?_, hI, hF⟩
                · rw [hP hl hc hq, hC]
                  show _ = some (3, sE (t, qD _ [(1, n)]) :: (qDS _ r).map sE, _)
                  rw [qd_at, hnn, qds_sc hr hsc.2, show (1 : Int) * M o (a % 100) = M o (a % 100) by omega]
                · exact qrf_ok (by rw [hr 0 hn]; exact h0) hnn (fun q hq' => hI.1 o (a % 100) q hq')
                · intro p' hp'
                  rcases List.mem_cons.mp hp' with rfl | hp'
                  · show M o (zIx _ (a % 100)) = qD _ [(1, n)]
                    rw [hZ, qd_at, hnn]; omega
                  · exact hK hr p' hp'
          · cases h
      · cases h
    · split at h
      · rename_i j u v t
        split at h
        · rename_i b m c1 w hj
          obtain ⟨h1, h2⟩ := zcond h
          cases h2
          rw [Bool.and_eq_true, Bool.and_eq_true, Bool.and_eq_true, Bool.and_eq_true, Bool.and_eq_true] at h1
          have hb1 := qd_ent h0 hf h1.1
          have hb2 := qd_ent h0 hf h1.2.1
          rw [qd_sub, qd_cn h0] at hb1 hb2
          have hx : ((qD ρ x).toNat : Int) = qD ρ x := Int.toNat_of_nonneg (by omega)
          obtain ⟨hl, hrg⟩ := sfm_at (List.mem_of_getElem? hj) (o := (qD ρ x).toNat) (by omega) (by omega)
          have hw : a % 100 < w := zblt h1.2.2.2.2.2
          have hp := hP (r := r) (p := (0, 0)) hl (by rw [Bool.and_eq_true, Bool.and_eq_true]; exact ⟨h1.2.2.1, h1.2.2.2.1, h1.2.2.2.2.1⟩) (by rw [List.getElem?_replicate, if_pos hw])
          have hr : ∀ e, e < n → qUp ρ (fun _ => M (qD ρ x).toNat (a % 100)) n e = ρ e := fun e h => qup_lt h
          have hnn : qUp ρ (fun _ => M (qD ρ x).toNat (a % 100)) n n = M (qD ρ x).toNat (a % 100) := qup_ge (Nat.le_refl n)
          refine ⟨fun _ => M (qD ρ x).toNat (a % 100), M, ?_, ?_, ?_, hI, hF⟩
          · refine hp.trans ?_
            show some (3, sE (0, M (qD ρ x).toNat (a % 100)) :: _, _) = some (3, sE (0, qD _ [(1, n)]) :: (qDS _ r).map sE, _)
            rw [qd_at, hnn, qds_sc hr hsc.2, show (1 : Int) * M (qD ρ x).toNat (a % 100) = M (qD ρ x).toNat (a % 100) by omega]
          · exact qrf_ok (by rw [hr 0 hn]; exact h0) hnn (fun q hq' => hI.1 _ _ q (by rw [hrg _ hw]; exact hq'))
          · exact hK hr
        · cases h
      · cases h
  · cases h
end MEM
end
section
/-! THE HEAP, AS FORMS: fields are written; arrays. -/
def qFt (ci k t : Nat) (r : Option (Int × Int)) : Bool := !((pT ci k).2.2.2) && (Nat.blt k (pN ci) && (match pTy ci k with
  | .int => Nat.beq t 0
  | .boolean => Nat.beq t 0 && (match r with | some (0, 1) => true | _ => false)
  | .long => Nat.beq t 1
  | .object _ => Nat.beq t 2
  | _ => false))
theorem zn_and1 {v : Int} (h : 0 ≤ v ∧ v ≤ 1) : Int32.ofInt v &&& 1 = Int32.ofInt v := by
  rcases (by omega : v = 0 ∨ v = 1) with rfl | rfl <;> decide
theorem qft_ok {c ci k t : Nat} {ini : Bool} {r : Option (Int × Int)} {v : Int} (h : qFt ci k t r = true) (hv : ∀ q, r = some q → q.1 ≤ v ∧ v ≤ q.2) : pFit false c ini ci k (sE (t, v)) = true := by
  unfold qFt at h
  rw [Bool.and_eq_true, Bool.and_eq_true, Bool.not_eq_true'] at h
  obtain ⟨h1, h2, h3⟩ := h
  have hk : decide (k < pN ci) = true := decide_eq_true (zblt h2)
  have hZ : (pNoF (sE (t, v)) && fits (pTy ci k) (sE (t, v)) && decide (narrow (pTy ci k) (sE (t, v)) = sE (t, v))) = true := by
    split at h3
    · rename_i ht
      have e := Nat.eq_of_beq_eq_true h3
      subst e
      rw [ht]
      show (true && true && decide (Value.int (Int32.ofInt v) = Value.int (Int32.ofInt v))) = true
      rw [decide_eq_true rfl]; rfl
    · rename_i ht
      rw [Bool.and_eq_true] at h3
      have e := Nat.eq_of_beq_eq_true h3.1
      subst e
      rw [ht]
      have hr : r = some (0, 1) := by
        have := h3.2
        split at this
        · rfl
        · cases this
      have hb := hv _ hr
      have hb : 0 ≤ v ∧ v ≤ 1 := hb
      show (true && (Int32.ofInt v == 0 || Int32.ofInt v == 1) && decide (Value.int (Int32.ofInt v &&& 1) = Value.int (Int32.ofInt v))) = true
      rw [zn_and1 hb, decide_eq_true rfl]
      rcases (by omega : v = 0 ∨ v = 1) with rfl | rfl <;> decide
    · rename_i ht
      have e := Nat.eq_of_beq_eq_true h3
      subst e
      rw [ht]
      show (true && true && decide (Value.long (Int64.ofInt v) = Value.long (Int64.ofInt v))) = true
      rw [decide_eq_true rfl]; rfl
    · rename_i x ht
      have e := Nat.eq_of_beq_eq_true h3
      subst e
      rw [ht]
      show (true && true && decide (Value.ref v.toNat = Value.ref v.toNat)) = true
      rw [decide_eq_true rfl]; rfl
    · cases h3
  unfold pFit
  rw [hk, hZ, h1]
  simp
def qRm (mm : qMm) (o k : Nat) : qMm := mm.filter (fun q => !(Nat.beq q.1 o && (Nat.beq q.2.1 k || !(Nat.blt q.2.1 1000))))
def qRmF (mm : qMm) (b m : Nat) : qMm := mm.filter (fun q => !(Nat.ble b q.1 && Nat.blt q.1 (b + m)))
theorem qrm_ok {ρ : Nat → Int} {M : sM} {mm : qMm} {o k : Nat} {v : Int} (hm : ∀ q ∈ mm, M q.1 (zIx ρ q.2.1) = qD ρ q.2.2) : ∀ q ∈ qRm mm o k, sU M o k v q.1 (zIx ρ q.2.1) = qD ρ q.2.2 := by
  intro q hq
  obtain ⟨h1, h2⟩ := List.mem_filter.mp hq
  rw [sU_ne]
  · exact hm q h1
  · rintro ⟨rfl, hk⟩
    rw [Nat.beq_refl, Bool.true_and, Bool.not_eq_true', Bool.or_eq_false_iff, Bool.not_eq_false'] at h2
    rw [zix_b h2.2] at hk
    rw [hk, Nat.beq_refl] at h2
    cases h2.1
theorem qrmf_ok {ρ : Nat → Int} {M : sM} {mm : qMm} {b m o k : Nat} {v : Int} (h1 : b ≤ o) (h2 : o < b + m) (hm : ∀ q ∈ mm, M q.1 (zIx ρ q.2.1) = qD ρ q.2.2) : ∀ q ∈ qRmF mm b m, sU M o k v q.1 (zIx ρ q.2.1) = qD ρ q.2.2 := by
  intro q hq
  obtain ⟨h3, h4⟩ := List.mem_filter.mp hq
  rw [sU_ne]
  · exact hm q h3
  · rintro ⟨rfl, -⟩
    rw [Nat.ble_eq_true_of_le h1, show Nat.blt q.1 (b + m) = true from Nat.ble_eq_true_of_le h2] at h4
    cases h4
def sInF (S : sSt) (b m k : Nat) : Bool := S.any (fun p => Nat.ble p.1 b && (Nat.ble (b + m) (p.2.1 + 1) && (Nat.beq p.2.2 999 || Nat.beq p.2.2 k)))
theorem sinf_ok {S : sSt} {b m k o : Nat} (h : sInF S b m k = true) (h1 : b ≤ o) (h2 : o < b + m) : sIn S o k = true := by
  obtain ⟨p, hp, h3⟩ := List.any_eq_true.mp h
  rw [Bool.and_eq_true, Bool.and_eq_true] at h3
  refine List.any_eq_true.mpr ⟨p, hp, ?_⟩
  rw [Bool.and_eq_true, Bool.and_eq_true]
  have e1 := Nat.le_of_ble_eq_true h3.1
  have e2 := Nat.le_of_ble_eq_true h3.2.1
  exact ⟨Nat.ble_eq_true_of_le (by omega), Nat.ble_eq_true_of_le (by omega), h3.2.2⟩
def sInA (S : sSt) (o : Nat) : Bool := S.any (fun p => Nat.ble p.1 o && (Nat.ble o p.2.1 && Nat.beq p.2.2 999))
theorem sina_ok {S : sSt} {o : Nat} (h : sInA S o = true) (k : Nat) : sIn S o k = true := by
  obtain ⟨p, hp, h3⟩ := List.any_eq_true.mp h
  rw [Bool.and_eq_true, Bool.and_eq_true] at h3
  refine List.any_eq_true.mpr ⟨p, hp, ?_⟩
  rw [Bool.and_eq_true, Bool.and_eq_true, h3.2.2]
  exact ⟨h3.1, h3.2.1, rfl⟩
def zTg (t t' : Nat) : Bool := (Nat.beq t 0 && Nat.beq t' 0) || ((Nat.beq t 1 && Nat.beq t' 1) || (Nat.beq t 2 && Nat.beq t' 3))
theorem ztg_ok {t : Nat} {p : Nat × Nat} (h : zTg t p.1 = true) (v : Int) : sC p v = (t, v) := by
  obtain ⟨t', u⟩ := p
  unfold zTg at h
  rw [Bool.or_eq_true, Bool.or_eq_true, Bool.and_eq_true, Bool.and_eq_true, Bool.and_eq_true] at h
  rcases h with h | h | h
  · have e1 := Nat.eq_of_beq_eq_true h.1
    have e2 : t' = 0 := Nat.eq_of_beq_eq_true h.2
    subst e1; subst e2; rfl
  · have e1 := Nat.eq_of_beq_eq_true h.1
    have e2 : t' = 1 := Nat.eq_of_beq_eq_true h.2
    subst e1; subst e2; rfl
  · have e1 := Nat.eq_of_beq_eq_true h.1
    have e2 : t' = 3 := Nat.eq_of_beq_eq_true h.2
    subst e1; subst e2; rfl
def qPf (S : sSt) (a : Nat) (st : List qV) (fs : List qF) (mm : qMm) (n : Nat) (hs : qHs) : Option qMr := match st with
  | (t, v) :: (2, x) :: r => (match qRef x with
    | some o => (match sLay[o]? with
      | some c => (match c.2[a % 100]? with
        | some p => (match qRk fs (sRg o (a % 100)) v hs with
          | some hs' => cond (Nat.beq c.1 (a / 100) && (Nat.blt c.1 13 && (sIn S o (a % 100) && (qFt c.1 (a % 100) t (sRg o (a % 100)) && (zTg t p.1 && !(sIn zPl o (a % 100))))))) (some (3, r, [], (o, a % 100, v) :: qRm mm o (a % 100), n, hs')) none
          | none => none)
        | none => none)
      | none => none)
    | none => (match hs with
      | [(j, 0)] :: u :: w :: s => (match sFm[j.toNat]? with
        | some (b, m, c, z) => (match qRk fs (sRg b (a % 100)) v s with
          | some hs' => cond (qEnt fs (qSub x (qCn (b : Int))) u && (qEnt fs (qSub (qCn ((b : Int) + m - 1)) x) w && (Nat.beq c (a / 100) && (Nat.blt c 13 && (Nat.blt (a % 100) z && (sInF S b m (a % 100) && (qFt c (a % 100) 0 (sRg b (a % 100)) && (Nat.beq t 0 && (List.range m).all (fun j => !(sInC zPl (b + j))))))))))) (some (3, r, [], qRmF mm b m, n, hs')) none
          | none => none)
        | none => none)
      | _ => none))
  | _ => none
section MEM2
variable {J : pHp} {M0 : sM} {S : sSt}
theorem qpf_ok {c : Nat} {ini : Bool} {ix a n : Nat} {st : List qV} {fs : List qF} {mm : qMm} {hs : qHs} {q : qMr} (h : qPf S a st fs mm n hs = some q) : qMok c ini (.putfield ix) a J M0 S st fs mm n q := by
  intro ρ M hn h0 hsc hsm hf hm hI hF
  unfold qPf at h
  split at h
  · rename_i t v x r
    split at h
    · rename_i o ho
      have hx := qref_ok h0 ho
      split at h
      · rename_i c1 hl
        split at h
        · rename_i p hq
          split at h
          · rename_i hs' hk
            obtain ⟨h1, h2⟩ := zcond h
            cases h2
            rw [Bool.and_eq_true, Bool.and_eq_true, Bool.and_eq_true, Bool.and_eq_true, Bool.and_eq_true, Bool.not_eq_true'] at h1
            obtain ⟨g1, g2, g3, g4, g5, g6⟩ := h1
            have hr := qrk_ok h0 hf hk
            have hC := ztg_ok g5 (qD ρ v)
            refine ⟨ρ, sU M o (a % 100) (qD ρ v), ?_, fun _ hf => (nomatch hf), ?_, si_u hI g6 hr, sf_u hF g3⟩
            · have hp := zm_put (M := M) (J := J) (c := c) (ini := ini) (ix := ix) (rest := (qDS ρ r).map sE) (v := qD ρ v) hl ⟨Nat.eq_of_beq_eq_true g1, zblt g2⟩ hq (by rw [hC]; exact qft_ok g4 hr)
              rw [hC] at hp
              rw [qup_self, ← hp]
              show pMem false c ini (.putfield ix) a (sE (t, qD ρ v) :: Value.ref (qD ρ x).toNat :: (qDS ρ r).map sE) _ = _
              rw [hx]
              rfl
            · rw [qup_self]
              intro p' hp'
              rcases List.mem_cons.mp hp' with rfl | hp'
              · show sU M o (a % 100) (qD ρ v) o (zIx ρ (a % 100)) = qD ρ v
                rw [zix_lt (by omega)]
                exact sU_at _ _ _ _
              · exact qrm_ok hm p' hp'
          · cases h
        · cases h
      · cases h
    · split at h
      · rename_i j u w s
        split at h
        · rename_i b m c1 z hj
          split at h
          · rename_i hs' hk
            obtain ⟨h1, h2⟩ := zcond h
            cases h2
            rw [Bool.and_eq_true, Bool.and_eq_true, Bool.and_eq_true, Bool.and_eq_true, Bool.and_eq_true, Bool.and_eq_true, Bool.and_eq_true, Bool.and_eq_true] at h1
            obtain ⟨g1, g2, g3, g4, g5, g6, g7, g8, g9⟩ := h1
            have e8 := Nat.eq_of_beq_eq_true g8
            subst e8
            have hb1 := qd_ent h0 hf g1
            have hb2 := qd_ent h0 hf g2
            rw [qd_sub, qd_cn h0] at hb1 hb2
            have hx : ((qD ρ x).toNat : Int) = qD ρ x := Int.toNat_of_nonneg (by omega)
            have ho1 : b ≤ (qD ρ x).toNat := by omega
            have ho2 : (qD ρ x).toNat < b + m := by omega
            obtain ⟨hl, hrg⟩ := sfm_at (List.mem_of_getElem? hj) ho1 ho2
            have g10 : sInC zPl (qD ρ x).toNat = false := by
              have := List.all_eq_true.mp g9 ((qD ρ x).toNat - b) (List.mem_range.mpr (by omega))
              rw [show b + ((qD ρ x).toNat - b) = (qD ρ x).toNat by omega, Bool.not_eq_true'] at this
              exact this
            have hr := qrk_ok h0 hf hk
            have hr' : ∀ q, sRg (qD ρ x).toNat (a % 100) = some q → q.1 ≤ qD ρ v ∧ qD ρ v ≤ q.2 := fun q hq => hr q (by rw [← hrg _ (zblt g5)]; exact hq)
            refine ⟨ρ, sU M (qD ρ x).toNat (a % 100) (qD ρ v), ?_, fun _ hf => (nomatch hf), ?_, si_u hI (sinc_ok g10 _) hr', sf_u hF (sinf_ok g6 ho1 ho2)⟩
            · have hp := zm_put (M := M) (J := J) (c := c) (ini := ini) (ix := ix) (rest := (qDS ρ r).map sE) (v := qD ρ v) (p := (0, 0)) hl ⟨Nat.eq_of_beq_eq_true g3, zblt g4⟩ (by rw [List.getElem?_replicate, if_pos (zblt g5)]) (qft_ok g7 hr)
              rw [qup_self, ← hp]
              rfl
            · rw [qup_self]
              exact qrmf_ok ho1 ho2 hm
          · cases h
        · cases h
      · cases h
  · cases h
end MEM2
end
section
/-! THE HEAP, AS FORMS: arrays. -/
def qRes (m : Nat) : qF → Option Int
  | [] => some 0
  | q :: f => match qRes m f with
    | some r => cond (Nat.beq q.2 0) (some (r + q.1)) (cond (q.1 % (m : Int) == 0) (some r) none)
    | none => none
theorem qres_ok {ρ : Nat → Int} (h0 : ρ 0 = 1) {m : Nat} : ∀ {f : qF} {r : Int}, qRes m f = some r → ∃ c, qD ρ f = r + m * c
  | [], r, h => by cases h; exact ⟨0, by show (0 : Int) = 0 + m * 0; omega⟩
  | q :: f, r, h => by
    unfold qRes at h
    split at h
    · rename_i r' hr'
      obtain ⟨c, hc⟩ := qres_ok h0 hr'
      cases h1 : Nat.beq q.2 0 with
      | true =>
        rw [h1] at h
        cases h
        have e := Nat.eq_of_beq_eq_true h1
        refine ⟨c, ?_⟩
        show q.1 * ρ q.2 + qD ρ f = _
        rw [e, h0, hc]
        omega
      | false =>
        rw [h1, cond_false] at h
        cases h2 : (q.1 % (m : Int) == 0) with
        | false => rw [h2] at h; cases h
        | true =>
          rw [h2] at h
          cases h
          have h3 : q.1 % (m : Int) = 0 := by simpa using h2
          obtain ⟨u, hu⟩ := Int.dvd_of_emod_eq_zero h3
          refine ⟨u * ρ q.2 + c, ?_⟩
          show q.1 * ρ q.2 + qD ρ f = _
          rw [hc, hu, Int.mul_add, Int.mul_assoc]
          omega
    · cases h
/-- the range of a place of an array of m places -/
def qRs (o m : Nat) (x : qF) : Option (Int × Int) := match sRl[o]? with
  | some (len, w, l) => cond (Nat.beq len m && Nat.blt 0 w) (match qRes w x with | some r => (l[(r % (w : Int)).toNat]?).getD none | none => none) none
  | none => none
theorem qrs_ok {ρ : Nat → Int} (h0 : ρ 0 = 1) {o m : Nat} {x : qF} {r : Int × Int} (h : qRs o m x = some r) (hx : 0 ≤ qD ρ x) (hm : qD ρ x < m) : sRg o (qD ρ x).toNat = some r := by
  unfold qRs at h
  unfold sRg
  split at h
  · rename_i len w l hl
    rw [hl]
    cases h1 : (Nat.beq len m && Nat.blt 0 w) with
    | false => rw [h1] at h; cases h
    | true =>
      rw [h1, cond_true] at h
      rw [Bool.and_eq_true] at h1
      have e1 := Nat.eq_of_beq_eq_true h1.1
      have e2 : 0 < w := zblt h1.2
      subst e1
      split at h
      · rename_i r' hr
        obtain ⟨c, hc⟩ := qres_ok h0 hr
        have hk : (qD ρ x).toNat < len := by omega
        have hb : Nat.blt (qD ρ x).toNat len = true := Nat.ble_eq_true_of_le hk
        show cond (Nat.blt (qD ρ x).toNat len) ((l[(qD ρ x).toNat % w]?).getD none) none = some r
        rw [hb, cond_true]
        have e3 : (qD ρ x).toNat % w = (r' % (w : Int)).toNat := by
          have h4 : (((qD ρ x).toNat % w : Nat) : Int) = qD ρ x % (w : Int) := by
            rw [Int.natCast_emod, Int.toNat_of_nonneg hx]
          have h5 : qD ρ x % (w : Int) = r' % (w : Int) := by
            rw [hc, Int.add_mul_emod_self_left]
          have h6 : 0 ≤ r' % (w : Int) := Int.emod_nonneg _ (by omega)
          omega
        rw [e3]
        exact h
      · cases h
  · cases h
def qArr (o : Nat) : Option (Nat × Nat × Nat) := sAr.find? (fun q => Nat.beq q.1 o)
theorem qarr_ok {o : Nat} {q : Nat × Nat × Nat} (h : qArr o = some q) : sLay[o]? = some (q.2.1, List.replicate q.2.2 (cond (Nat.beq q.2.1 23) 1 0, 0)) ∧ q.2.2 ≤ 4096 := by
  have h1 := List.find?_some h
  have h2 := List.mem_of_find?_eq_some h
  have e := Nat.eq_of_beq_eq_true h1
  have h3 := List.all_eq_true.mp sar_ok q h2
  rw [Bool.and_eq_true, Bool.and_eq_true, Bool.and_eq_true] at h3
  rw [← e]
  exact ⟨of_decide_eq_true h3.1, Nat.le_of_ble_eq_true h3.2.1⟩
theorem sar_s : sAr.all (fun q => Nat.ble q.2.2 700) = true := by decide +kernel
theorem qarr_s {o : Nat} {q : Nat × Nat × Nat} (h : qArr o = some q) : q.2.2 ≤ 700 := Nat.le_of_ble_eq_true (List.all_eq_true.mp sar_s q (List.mem_of_find?_eq_some h))
/-- instruction, kind of array: the kind of what is read -/
def zLk (i : Instr) (t : Nat) : Option Nat := match i with
  | .iaload => cond (Nat.beq t 20) (some 0) none
  | .baload => cond (Nat.beq t 21 || Nat.beq t 22) (some 0) none
  | .laload => cond (Nat.beq t 23) (some 1) none
  | _ => none
theorem zlk_ok {i : Instr} {t k : Nat} (h : zLk i t = some k) : ((i = .iaload ∧ t = 20) ∨ (i = .baload ∧ (t = 21 ∨ t = 22)) ∨ (i = .laload ∧ t = 23)) ∧ (cond (Nat.beq t 23) 1 0) = k ∧ (k = 0 ∨ k = 1) := by
  unfold zLk at h
  split at h
  · obtain ⟨h1, h2⟩ := zcond h
    have e := Nat.eq_of_beq_eq_true h1
    subst e; subst h2
    exact ⟨Or.inl ⟨rfl, rfl⟩, rfl, Or.inl rfl⟩
  · obtain ⟨h1, h2⟩ := zcond h
    rw [Bool.or_eq_true] at h1
    subst h2
    rcases h1 with h1 | h1
    · have e := Nat.eq_of_beq_eq_true h1
      subst e
      exact ⟨Or.inr (Or.inl ⟨rfl, Or.inl rfl⟩), rfl, Or.inl rfl⟩
    · have e := Nat.eq_of_beq_eq_true h1
      subst e
      exact ⟨Or.inr (Or.inl ⟨rfl, Or.inr rfl⟩), rfl, Or.inl rfl⟩
  · obtain ⟨h1, h2⟩ := zcond h
    have e := Nat.eq_of_beq_eq_true h1
    subst e; subst h2
    exact ⟨Or.inr (Or.inr ⟨rfl, rfl⟩), rfl, Or.inr rfl⟩
  · cases h
def qAl (i : Instr) (st : List qV) (fs : List qF) (mm : qMm) (n : Nat) (hs : qHs) : Option qMr := match st with
  | (0, x) :: (2, y) :: r => (match qRef y with
    | some o => (match qArr o with
      | some q => (match zLk i q.2.1 with
        | some kd => (match hs with
          | a :: b :: hs' => cond (qEnt fs x a && qEnt fs (qSub (qCn ((q.2.2 : Int) - 1)) x) b) (cond (Nat.beq kd 1) (some (1, (1, [(1, n)]) :: r, qInL n, mm, n + 1, hs')) (match qKo x with
            | some c => (match qFind mm o c.toNat with
              | some f => some (1, (kd, f) :: r, [], mm, n, hs')
              | none => some (1, (kd, [(1, n)]) :: r, qRf (sRg o c.toNat) n, (o, c.toNat, [(1, n)]) :: mm, n + 1, hs'))
            | none => (match x with
              | [(1, e)] => (match qFind mm o (1000 + e) with
                | some f => some (1, (kd, f) :: r, [], mm, n, hs')
                | none => some (1, (kd, [(1, n)]) :: r, qRf (qRs o q.2.2 x) n, (o, 1000 + e, [(1, n)]) :: mm, n + 1, hs'))
              | _ => cond (sInC zPl o) (some (1, (kd, [(1, n + 1)]) :: r, qSub x [(1, n)] :: qSub [(1, n)] x :: qRf (qRs o q.2.2 x) (n + 1), (o, 1000 + n, [(1, n + 1)]) :: mm, n + 2, hs')) (some (1, (kd, [(1, n)]) :: r, qRf (qRs o q.2.2 x) n, mm, n + 1, hs'))))) none
          | _ => none)
        | none => none)
      | none => none)
    | none => none)
  | _ => none
section MEM3
variable {J : pHp} {M0 : sM} {S : sSt}
theorem qal_ok {c : Nat} {ini : Bool} {i : Instr} {a n : Nat} {st : List qV} {fs : List qF} {mm : qMm} {hs : qHs} {q : qMr} (h : qAl i st fs mm n hs = some q) : qMok c ini i a J M0 S st fs mm n q := by
  intro ρ M hn h0 hsc hsm hf hm hI hF
  have hK : ∀ {ρ' : Nat → Int}, (∀ e, e < n → ρ' e = ρ e) → ∀ p ∈ mm, M p.1 (zIx ρ' p.2.1) = qD ρ' p.2.2 := fun hr p hp => by
    have h6 := hsm p hp
    rw [Bool.and_eq_true] at h6
    rw [qd_sc hr h6.2, zix_sc hr h6.1]
    exact hm p hp
  unfold qAl at h
  split at h
  · rename_i x y r
    rw [List.all_cons, List.all_cons, Bool.and_eq_true, Bool.and_eq_true] at hsc
    split at h
    · rename_i o ho
      have hy := qref_ok h0 ho
      split at h
      · rename_i p hp
        obtain ⟨hl, hb⟩ := qarr_ok hp
        split at h
        · rename_i kd hk
          obtain ⟨hi, hkd, hkk⟩ := zlk_ok hk
          split at h
          · rename_i u v hs'
            cases h1 : (qEnt fs x u && qEnt fs (qSub (qCn ((p.2.2 : Int) - 1)) x) v) with
            | false => rw [h1] at h; cases h
            | true =>
              rw [h1, cond_true] at h
              rw [Bool.and_eq_true] at h1
              have hx0 := qd_ent h0 hf h1.1
              have hx1 := qd_ent h0 hf h1.2
              rw [qd_sub, qd_cn h0] at hx1
              have hC : ∀ z : Int, sC (kd, 0) z = (kd, z) := by
                intro z
                rcases hkk with rfl | rfl <;> rfl
              rw [hkd] at hl
              have hP : pMem false c ini i a ((qDS ρ ((0, x) :: (2, y) :: r)).map sE) (sHp sLay M ++ J) = some (1, sE (kd, M o (qD ρ x).toNat) :: (qDS ρ r).map sE, sHp sLay M ++ J) := by
                have := zm_ld (M := M) (J := J) (c := c) (ini := ini) (a := a) (rest := (qDS ρ r).map sE) hi hl hx0 (by omega) hb
                rw [hC] at this
                rw [← this]
                show pMem false c ini i a (Value.int (Int32.ofInt (qD ρ x)) :: Value.ref (qD ρ y).toNat :: (qDS ρ r).map sE) _ = _
                rw [hy]
                rfl
              have hr : ∀ e, e < n → qUp ρ (fun _ => M o (qD ρ x).toNat) n e = ρ e := fun e h => qup_lt h
              have hnn : qUp ρ (fun _ => M o (qD ρ x).toNat) n n = M o (qD ρ x).toNat := qup_ge (Nat.le_refl n)
              have hP2 : pMem false c ini i a ((qDS ρ ((0, x) :: (2, y) :: r)).map sE) (sHp sLay M ++ J) = some (1, (qDS (qUp ρ (fun _ => M o (qD ρ x).toNat) n) ((kd, [(1, n)]) :: r)).map sE, sHp sLay M ++ J) := by
                rw [hP]
                show _ = some (1, sE (kd, qD _ [(1, n)]) :: (qDS _ r).map sE, _)
                rw [qd_at, hnn, qds_sc hr hsc.2.2, show (1 : Int) * M o (qD ρ x).toNat = M o (qD ρ x).toNat by omega]
              cases hk1 : Nat.beq kd 1
              case true =>
                rw [hk1, cond_true] at h
                cases h
                have hk2 := Nat.eq_of_beq_eq_true hk1
                have hr3 : ∀ e, e < n → qUp ρ (fun _ => (Int64.ofInt (M o (qD ρ x).toNat)).toInt) n e = ρ e := fun e h => qup_lt h
                have hn3 : qUp ρ (fun _ => (Int64.ofInt (M o (qD ρ x).toNat)).toInt) n n = (Int64.ofInt (M o (qD ρ x).toNat)).toInt := qup_ge (Nat.le_refl n)
                refine ⟨fun _ => (Int64.ofInt (M o (qD ρ x).toNat)).toInt, M, ?_, qinl_ok (by rw [hr3 0 hn]; exact h0) hn3 (i64_rng _), hK hr3, hI, hF⟩
                rw [hP, hk2]
                show some (1, Value.long (Int64.ofInt (M o (qD ρ x).toNat)) :: _, _) = some (1, Value.long (Int64.ofInt (qD _ [(1, n)])) :: (qDS _ r).map sE, _)
                rw [qd_at, hn3, qds_sc hr3 hsc.2.2, show (1 : Int) * (Int64.ofInt (M o (qD ρ x).toNat)).toInt = (Int64.ofInt (M o (qD ρ x).toNat)).toInt by omega, i64_of]
              rw [hk1, cond_false] at h
              split at h
              · rename_i e he
                have hxe := qd_ko h0 he
                have he1 : e.toNat < 1000 := by
                  have := qarr_s hp
                  omega
                split at h
                · rename_i f hfi
                  cases h
                  refine ⟨ρ, M, ?_, fun _ hf => (nomatch hf), ?_, hI, hF⟩
                  · have h7 := qfind_ok hm hfi
                    rw [zix_lt he1] at h7
                    rw [hP, qup_self, hxe, h7]
                    rfl
                  · rw [qup_self]; exact hm
                · cases h
                  refine ⟨_, M, hP2, ?_, ?_, hI, hF⟩
                  · exact qrf_ok (by rw [hr 0 hn]; exact h0) hnn (fun q hq' => hI.1 o _ q (by rw [hxe]; exact hq'))
                  · intro p' hp'
                    rcases List.mem_cons.mp hp' with rfl | hp'
                    · show M o (zIx _ e.toNat) = qD _ [(1, n)]
                      rw [zix_lt he1, qd_at, hnn, hxe]; omega
                    · exact hK hr p' hp'
              · split at h
                · rename_i e _
                  have hz : ∀ ρ' : Nat → Int, zIx ρ' (1000 + e) = (ρ' e).toNat := by
                    intro ρ'
                    unfold zIx
                    have hb0 : Nat.blt (1000 + e) 1000 = false := by
                      cases hb0 : Nat.blt (1000 + e) 1000 with
                      | false => rfl
                      | true => have := zblt hb0; omega
                    rw [hb0]
                    show (ρ' (1000 + e - 1000)).toNat = _
                    rw [show 1000 + e - 1000 = e by omega]
                  have hxe : qD ρ [(1, e)] = ρ e := by rw [qd_at]; omega
                  split at h
                  · rename_i f hfi
                    cases h
                    refine ⟨ρ, M, ?_, fun _ hf => (nomatch hf), ?_, hI, hF⟩
                    · have h7 := qfind_ok hm hfi
                      rw [hz] at h7
                      rw [hP, qup_self, hxe, h7]
                      rfl
                    · rw [qup_self]; exact hm
                  · cases h
                    refine ⟨_, M, hP2, ?_, ?_, hI, hF⟩
                    · exact qrf_ok (by rw [hr 0 hn]; exact h0) hnn (fun q hq' => hI.1 o _ q (qrs_ok h0 hq' hx0 (by omega)))
                    · intro p' hp'
                      rcases List.mem_cons.mp hp' with rfl | hp'
                      · have he2 : e < n := by
                          have h8 := hsc.1
                          have h9 : (Nat.blt e n && true) = true := h8
                          rw [Bool.and_true] at h9
                          exact zblt h9
                        show M o (zIx _ (1000 + e)) = qD _ [(1, n)]
                        rw [hz, hr e he2, qd_at, hnn, hxe]; omega
                      · exact hK hr p' hp'
                · cases hpl : sInC zPl o with
                  | true =>
                    rw [hpl, cond_true] at h
                    cases h
                    have hr2 : ∀ e, e < n → qUp ρ (fun b => cond (Nat.beq b n) (qD ρ x) (M o (qD ρ x).toNat)) n e = ρ e := fun e h => qup_lt h
                    have hn1 : qUp ρ (fun b => cond (Nat.beq b n) (qD ρ x) (M o (qD ρ x).toNat)) n n = qD ρ x := by
                      rw [qup_ge (Nat.le_refl n), Nat.beq_refl]; rfl
                    have hn2 : qUp ρ (fun b => cond (Nat.beq b n) (qD ρ x) (M o (qD ρ x).toNat)) n (n + 1) = M o (qD ρ x).toNat := by
                      rw [qup_ge (by omega)]
                      have : Nat.beq (n + 1) n = false := by
                        cases hb0 : Nat.beq (n + 1) n with
                        | false => rfl
                        | true => have := Nat.eq_of_beq_eq_true hb0; omega
                      rw [this]; rfl
                    have h00 : qUp ρ (fun b => cond (Nat.beq b n) (qD ρ x) (M o (qD ρ x).toNat)) n 0 = 1 := by rw [hr2 0 hn]; exact h0
                    have hxx : qD (qUp ρ (fun b => cond (Nat.beq b n) (qD ρ x) (M o (qD ρ x).toNat)) n) x = qD ρ x := qd_sc hr2 hsc.1
                    refine ⟨fun b => cond (Nat.beq b n) (qD ρ x) (M o (qD ρ x).toNat), M, ?_, ?_, ?_, hI, hF⟩
                    · rw [hP]
                      show _ = some (1, sE (kd, qD _ [(1, n + 1)]) :: (qDS _ r).map sE, _)
                      rw [qd_at, hn2, qds_sc hr2 hsc.2.2, show (1 : Int) * M o (qD ρ x).toNat = M o (qD ρ x).toNat by omega]
                    · intro f hf'
                      rcases List.mem_cons.mp hf' with rfl | hf'
                      · rw [qd_sub, hxx, qd_at, hn1]; omega
                      · rcases List.mem_cons.mp hf' with rfl | hf'
                        · rw [qd_sub, hxx, qd_at, hn1]; omega
                        · exact qrf_ok h00 hn2 (fun q hq' => hI.1 o _ q (qrs_ok h0 hq' hx0 (by omega))) f hf'
                    · intro p' hp'
                      rcases List.mem_cons.mp hp' with rfl | hp'
                      · have hz : zIx (qUp ρ (fun b => cond (Nat.beq b n) (qD ρ x) (M o (qD ρ x).toNat)) n) (1000 + n) = (qD ρ x).toNat := by
                          unfold zIx
                          have hb0 : Nat.blt (1000 + n) 1000 = false := by
                            cases hb0 : Nat.blt (1000 + n) 1000 with
                            | false => rfl
                            | true => have := zblt hb0; omega
                          rw [hb0]
                          show (qUp ρ _ n (1000 + n - 1000)).toNat = _
                          rw [show 1000 + n - 1000 = n by omega, hn1]
                        show M o (zIx _ (1000 + n)) = qD _ [(1, n + 1)]
                        rw [hz, qd_at, hn2]; omega
                      · exact hK hr2 p' hp'
                  | false =>
                    rw [hpl, cond_false] at h
                    cases h
                    refine ⟨_, M, hP2, ?_, ?_, hI, hF⟩
                    · exact qrf_ok (by rw [hr 0 hn]; exact h0) hnn (fun q hq' => hI.1 o _ q (qrs_ok h0 hq' hx0 (by omega)))
                    · exact hK hr
          · cases h
        · cases h
      · cases h
    · cases h
  · cases h
/-- instruction, kind of array, kind of what is written -/
def zSk (i : Instr) (ty t : Nat) (r : Option (Int × Int)) : Bool := match i with
  | .iastore => Nat.beq ty 20 && Nat.beq t 0
  | .bastore => Nat.beq t 0 && (Nat.beq ty 21 || (Nat.beq ty 22 && (match r with | some (0, 1) => true | _ => false)))
  | .lastore => Nat.beq ty 23 && Nat.beq t 1
  | _ => false
def qRx (o : Nat) (x : qF) : Option (Option (Int × Int)) := match qKo x with
  | some c => some (sRg o c.toNat)
  | none => (match sRl[o]? with
    | some (_, w, l) => cond (Nat.blt 0 w) (match qRes w x with | some e => some ((l[(e % (w : Int)).toNat]?).getD none) | none => none) none
    | none => some none)
theorem qrx_ok {ρ : Nat → Int} (h0 : ρ 0 = 1) {o : Nat} {x : qF} {r : Option (Int × Int)} (h : qRx o x = some r) (hx : 0 ≤ qD ρ x) {q : Int × Int} (hq : sRg o (qD ρ x).toNat = some q) : r = some q := by
  unfold qRx at h
  split at h
  · rename_i c hc
    cases h
    rw [← qd_ko h0 hc]
    exact hq
  · unfold sRg at hq
    split at h
    · rename_i len w l hl
      rw [hl] at hq
      cases h1 : Nat.blt 0 w with
      | false => rw [h1] at h; cases h
      | true =>
        rw [h1, cond_true] at h
        have e2 : 0 < w := zblt h1
        split at h
        · rename_i e he
          cases h
          have hq : cond (Nat.blt (qD ρ x).toNat len) ((l[(qD ρ x).toNat % w]?).getD none) none = some q := hq
          cases h3 : Nat.blt (qD ρ x).toNat len with
          | false => rw [h3] at hq; cases hq
          | true =>
            rw [h3, cond_true] at hq
            obtain ⟨c, hc⟩ := qres_ok h0 he
            have e3 : (qD ρ x).toNat % w = (e % (w : Int)).toNat := by
              have h4 : (((qD ρ x).toNat % w : Nat) : Int) = qD ρ x % (w : Int) := by
                rw [Int.natCast_emod, Int.toNat_of_nonneg hx]
              have h5 : qD ρ x % (w : Int) = e % (w : Int) := by
                rw [hc, Int.add_mul_emod_self_left]
              have h6 : 0 ≤ e % (w : Int) := Int.emod_nonneg _ (by omega)
              omega
            rw [← e3]
            exact hq
        · cases h
    · rename_i hl
      rw [hl] at hq
      cases hq
/-- of a cell only places below l stay -/
def qRmL (mm : qMm) (o l : Nat) : qMm := mm.filter (fun q => !(Nat.beq q.1 o) || (Nat.blt q.2.1 l && Nat.blt q.2.1 1000))
theorem qrml_ok {ρ : Nat → Int} {M : sM} {mm : qMm} {o l k : Nat} {v : Int} (h1 : l ≤ k) (hm : ∀ q ∈ mm, M q.1 (zIx ρ q.2.1) = qD ρ q.2.2) : ∀ q ∈ qRmL mm o l, sU M o k v q.1 (zIx ρ q.2.1) = qD ρ q.2.2 := by
  intro q hq
  obtain ⟨h3, h4⟩ := List.mem_filter.mp hq
  rw [sU_ne]
  · exact hm q h3
  · rintro ⟨rfl, hk⟩
    rw [Nat.beq_refl, Bool.not_true, Bool.false_or, Bool.and_eq_true] at h4
    rw [zix_b h4.2] at hk
    have := zblt h4.1
    omega
def qAs (i : Instr) (S : sSt) (st : List qV) (fs : List qF) (mm : qMm) (n : Nat) (hs : qHs) : Option qMr := match st with
  | (t, v) :: (0, x) :: (2, y) :: r => (match qRef y with
    | some o => (match qArr o with
      | some q => (match qRx o x with
        | some g => (match hs with
          | a :: b :: hs1 => cond (qEnt fs x a && (qEnt fs (qSub (qCn ((q.2.2 : Int) - 1)) x) b && (sInA S o && (zSk i q.2.1 t g && !(match qKo x with | some c => sIn zPl o c.toNat | none => sInC zPl o))))) (cond (Nat.beq q.2.1 21) (cond g.isNone (some (1, r, [], qRmF mm o 1, n, hs1)) none) (match qRk fs g v hs1 with
            | some hs' => (match qKo x with
              | some c => some (1, r, [], (o, c.toNat, v) :: qRm mm o c.toNat, n, hs')
              | none => (match hs' with
                | [] :: hs3 => some (1, r, [], qRmF mm o 1, n, hs3)
                | [(l, 0)] :: w :: hs3 => cond (qEnt fs (qSub x (qCn l)) w) (some (1, r, [], qRmL mm o l.toNat, n, hs3)) none
                | _ => none))
            | none => none)) none
          | _ => none)
        | none => none)
      | none => none)
    | none => none)
  | _ => none
theorem zsk_ok {i : Instr} {ty t : Nat} {g : Option (Int × Int)} {v : Int} (h : zSk i ty t g = true) (hv : ∀ q, g = some q → q.1 ≤ v ∧ v ≤ q.2) : ∃ v' : Int, (¬ ty = 21 → v' = v) ∧ ((i = .iastore ∧ ty = 20 ∧ ∃ u, sE (t, v) = .int u ∧ sE (sC (cond (Nat.beq ty 23) 1 0, 0) v') = sE (t, v)) ∨ (i = .bastore ∧ (ty = 21 ∨ ty = 22) ∧ ∃ u, sE (t, v) = .int u ∧ sE (sC (cond (Nat.beq ty 23) 1 0, 0) v') = narrow (pAty ty) (sE (t, v))) ∨ (i = .lastore ∧ ty = 23 ∧ ∃ u, sE (t, v) = .long u ∧ sE (sC (cond (Nat.beq ty 23) 1 0, 0) v') = sE (t, v))) := by
  unfold zSk at h
  split at h
  · rw [Bool.and_eq_true] at h
    have e1 := Nat.eq_of_beq_eq_true h.1
    have e2 := Nat.eq_of_beq_eq_true h.2
    subst e1; subst e2
    exact ⟨v, fun _ => rfl, Or.inl ⟨rfl, rfl, _, rfl, rfl⟩⟩
  · rw [Bool.and_eq_true, Bool.or_eq_true] at h
    have e2 := Nat.eq_of_beq_eq_true h.1
    subst e2
    rcases h.2 with h1 | h1
    · have e1 := Nat.eq_of_beq_eq_true h1
      subst e1
      refine ⟨((Int32.ofInt v).toInt8.toInt32).toInt, fun h => absurd rfl h, Or.inr (Or.inl ⟨rfl, Or.inl rfl, _, rfl, ?_⟩)⟩
      show Value.int (Int32.ofInt ((Int32.ofInt v).toInt8.toInt32).toInt) = Value.int (Int32.ofInt v).toInt8.toInt32
      rw [i32_of]
    · rw [Bool.and_eq_true] at h1
      have e1 := Nat.eq_of_beq_eq_true h1.1
      subst e1
      have hr : g = some (0, 1) := by
        have := h1.2
        split at this
        · rfl
        · cases this
      have hb : 0 ≤ v ∧ v ≤ 1 := hv _ hr
      refine ⟨v, fun _ => rfl, Or.inr (Or.inl ⟨rfl, Or.inr rfl, _, rfl, ?_⟩)⟩
      show Value.int (Int32.ofInt v) = Value.int (Int32.ofInt v &&& 1)
      rw [zn_and1 hb]
  · rw [Bool.and_eq_true] at h
    have e1 := Nat.eq_of_beq_eq_true h.1
    have e2 := Nat.eq_of_beq_eq_true h.2
    subst e1; subst e2
    exact ⟨v, fun _ => rfl, Or.inr (Or.inr ⟨rfl, rfl, _, rfl, rfl⟩)⟩
  · cases h
theorem qas_ok {c : Nat} {ini : Bool} {i : Instr} {a n : Nat} {st : List qV} {fs : List qF} {mm : qMm} {hs : qHs} {q : qMr} (h : qAs i S st fs mm n hs = some q) : qMok c ini i a J M0 S st fs mm n q := by
  intro ρ M hn h0 hsc hsm hf hm hI hF
  unfold qAs at h
  split at h
  · rename_i t v x y r
    split at h
    · rename_i o ho
      have hy := qref_ok h0 ho
      split at h
      · rename_i p hp
        obtain ⟨hl, hb⟩ := qarr_ok hp
        split at h
        · rename_i g hg
          split at h
          · rename_i u w hs1
            cases h1 : (qEnt fs x u && (qEnt fs (qSub (qCn ((p.2.2 : Int) - 1)) x) w && (sInA S o && (zSk i p.2.1 t g && !(match qKo x with | some c => sIn zPl o c.toNat | none => sInC zPl o))))) with
            | false => rw [h1] at h; cases h
            | true =>
              rw [h1, cond_true] at h
              rw [Bool.and_eq_true, Bool.and_eq_true, Bool.and_eq_true, Bool.and_eq_true, Bool.not_eq_true'] at h1
              obtain ⟨g1, g2, g3, g4, g5⟩ := h1
              have g6 : sIn zPl o (qD ρ x).toNat = false := by
                split at g5
                · rename_i c hc
                  rw [qd_ko h0 hc]
                  exact g5
                · exact sinc_ok g5 _
              have hx0 := qd_ent h0 hf g1
              have hx1 := qd_ent h0 hf g2
              rw [qd_sub, qd_cn h0] at hx1
              have hgo : ∀ (v' : Int) (z : ((i = .iastore ∧ p.2.1 = 20 ∧ ∃ u, sE (t, qD ρ v) = .int u ∧ sE (sC (cond (Nat.beq p.2.1 23) 1 0, 0) v') = sE (t, qD ρ v)) ∨ (i = .bastore ∧ (p.2.1 = 21 ∨ p.2.1 = 22) ∧ ∃ u, sE (t, qD ρ v) = .int u ∧ sE (sC (cond (Nat.beq p.2.1 23) 1 0, 0) v') = narrow (pAty p.2.1) (sE (t, qD ρ v))) ∨ (i = .lastore ∧ p.2.1 = 23 ∧ ∃ u, sE (t, qD ρ v) = .long u ∧ sE (sC (cond (Nat.beq p.2.1 23) 1 0, 0) v') = sE (t, qD ρ v)))), pMem false c ini i a ((qDS ρ ((t, v) :: (0, x) :: (2, y) :: r)).map sE) (sHp sLay M ++ J) = some (1, (qDS ρ r).map sE, sHp sLay (sU M o (qD ρ x).toNat v') ++ J) := by
                intro v' z
                have := zm_st (M := M) (J := J) (c := c) (ini := ini) (a := a) (rest := (qDS ρ r).map sE) z hl hx0 (by omega) hb
                rw [← this]
                show pMem false c ini i a (sE (t, qD ρ v) :: Value.int (Int32.ofInt (qD ρ x)) :: Value.ref (qD ρ y).toNat :: (qDS ρ r).map sE) _ = _
                rw [hy]
                rfl
              have hmF : ∀ v' : Int, ∀ p' ∈ qRmF mm o 1, sU M o (qD ρ x).toNat v' p'.1 (zIx ρ p'.2.1) = qD ρ p'.2.2 := fun v' => qrmf_ok (Nat.le_refl o) (by omega) hm
              cases h2 : Nat.beq p.2.1 21 with
              | true =>
                rw [h2, cond_true] at h
                cases h3 : g.isNone with
                | false => rw [h3] at h; cases h
                | true =>
                  rw [h3] at h
                  cases h
                  have hgn : g = none := by simpa using h3
                  obtain ⟨v', -, hv'⟩ := zsk_ok (v := qD ρ v) g4 (fun q hq => by rw [hgn] at hq; cases hq)
                  refine ⟨ρ, sU M o (qD ρ x).toNat v', ?_, fun _ hf => (nomatch hf), ?_, si_u hI g6 (fun q hq => ?_), sf_u hF (sina_ok g3 _)⟩
                  · rw [qup_self]; exact hgo v' hv'
                  · rw [qup_self]; exact hmF v'
                  · have := qrx_ok h0 hg hx0 hq
                    rw [hgn] at this
                    cases this
              | false =>
                rw [h2, cond_false] at h
                split at h
                · rename_i hs' hk
                  have hr := qrk_ok h0 hf hk
                  obtain ⟨v', he, hv'⟩ := zsk_ok (v := qD ρ v) g4 hr
                  have he := he (fun z => by rw [z] at h2; cases h2)
                  subst he
                  have hgoal : ∀ (mm' : qMm) (hs3 : qHs), (∀ p' ∈ mm', sU M o (qD ρ x).toNat (qD ρ v) p'.1 (zIx ρ p'.2.1) = qD ρ p'.2.2) → ∃ (ρ1 : Nat → Int) (M' : sM), pMem false c ini i a ((qDS ρ ((t, v) :: (0, x) :: (2, y) :: r)).map sE) (sHp sLay M ++ J) = some (1, (qDS (qUp ρ ρ1 n) r).map sE, sHp sLay M' ++ J) ∧ (∀ f ∈ ([] : List qF), 0 ≤ qD (qUp ρ ρ1 n) f) ∧ (∀ p ∈ mm', M' p.1 (zIx (qUp ρ ρ1 n) p.2.1) = qD (qUp ρ ρ1 n) p.2.2) ∧ sI M' ∧ sF S M0 M' := by
                    intro mm' hs3 hmm
                    refine ⟨ρ, sU M o (qD ρ x).toNat (qD ρ v), ?_, fun _ hf => (nomatch hf), ?_, si_u hI g6 (fun q hq => hr q (qrx_ok h0 hg hx0 hq)), sf_u hF (sina_ok g3 _)⟩
                    · rw [qup_self]; exact hgo _ hv'
                    · rw [qup_self]; exact hmm
                  split at h
                  · rename_i e hc
                    cases h
                    refine hgoal _ hs' (fun p' hp' => ?_)
                    have hxe := qd_ko h0 hc
                    have he1 : e.toNat < 1000 := by
                      have := qarr_s hp
                      omega
                    rw [hxe]
                    rcases List.mem_cons.mp hp' with rfl | hp'
                    · show sU M o e.toNat (qD ρ v) o (zIx ρ e.toNat) = qD ρ v
                      rw [zix_lt he1]
                      exact sU_at _ _ _ _
                    · exact qrm_ok hm p' hp'
                  · split at h
                    · rename_i hs3
                      cases h
                      exact hgoal _ hs3 (hmF _)
                    · rename_i l w3 hs3
                      obtain ⟨h8, h9⟩ := zcond h
                      cases h9
                      have h10 := qd_ent h0 hf h8
                      rw [qd_sub, qd_cn h0] at h10
                      exact hgoal _ hs3 (qrml_ok (by omega) hm)
                    · cases h
                · cases h
          · cases h
        · cases h
      · cases h
    · cases h
  · cases h
/-- arrays of objects, one behind another: the array, its kind, the first object, how many -/
def sCo : List (Nat × Nat × Nat × Nat) := [(3, 24, 13, 9), (4, 25, 22, 6), (29, 24, 39, 9), (30, 25, 48, 6)]
theorem sco_ok : sCo.all (fun q => decide (sLay[q.1]? = some (q.2.1, (List.range q.2.2.2).map (fun j => (2, q.2.2.1 + j)))) && (Nat.ble q.2.2.2 4096 && (Nat.beq q.2.1 24 || Nat.beq q.2.1 25))) = true := by decide +kernel
def qAa (st : List qV) (fs : List qF) (mm : qMm) (n : Nat) (hs : qHs) : Option qMr := match st with
  | (0, x) :: (2, y) :: r => (match qRef y with
    | some o => (match sCo.find? (fun q => Nat.beq q.1 o) with
      | some q => (match hs with
        | a :: b :: hs' => cond (qEnt fs x a && qEnt fs (qSub (qCn ((q.2.2.2 : Int) - 1)) x) b) (some (1, (2, qAdd x (qCn (q.2.2.1 : Int))) :: r, [], mm, n, hs')) none
        | _ => none)
      | none => none)
    | none => none)
  | _ => none
theorem qaa_ok {c : Nat} {ini : Bool} {a n : Nat} {st : List qV} {fs : List qF} {mm : qMm} {hs : qHs} {q : qMr} (h : qAa st fs mm n hs = some q) : qMok c ini .aaload a J M0 S st fs mm n q := by
  intro ρ M hn h0 hsc hsm hf hm hI hF
  unfold qAa at h
  split at h
  · rename_i x y r
    split at h
    · rename_i o ho
      have hy := qref_ok h0 ho
      split at h
      · rename_i p hp
        have e0 := List.find?_some hp
        have e := Nat.eq_of_beq_eq_true e0
        have h3 := List.all_eq_true.mp sco_ok p (List.mem_of_find?_eq_some hp)
        rw [Bool.and_eq_true, Bool.and_eq_true, Bool.or_eq_true] at h3
        have hl : sLay[o]? = some (p.2.1, (List.range p.2.2.2).map (fun j => (2, p.2.2.1 + j))) := by rw [← e]; exact of_decide_eq_true h3.1
        split at h
        · rename_i u v hs'
          obtain ⟨h1, h2⟩ := zcond h
          cases h2
          rw [Bool.and_eq_true] at h1
          have hx0 := qd_ent h0 hf h1.1
          have hx1 := qd_ent h0 hf h1.2
          rw [qd_sub, qd_cn h0] at hx1
          refine ⟨ρ, M, ?_, fun _ hf => (nomatch hf), ?_, hI, hF⟩
          · have := zm_ald (M := M) (J := J) (c := c) (ini := ini) (a := a) (rest := (qDS ρ r).map sE) (h3.2.2.imp Nat.eq_of_beq_eq_true Nat.eq_of_beq_eq_true) hl hx0 (by omega) (Nat.le_of_ble_eq_true h3.2.1)
            rw [qup_self]
            refine Eq.trans ?_ (this.trans ?_)
            · show pMem false c ini .aaload a (Value.int (Int32.ofInt (qD ρ x)) :: Value.ref (qD ρ y).toNat :: (qDS ρ r).map sE) _ = _
              rw [hy]
              rfl
            · show _ = some (1, Value.ref (qD ρ (qAdd x (qCn _))).toNat :: _, _)
              rw [qd_add, qd_cn h0, show (qD ρ x + (p.2.2.1 : Int)).toNat = p.2.2.1 + (qD ρ x).toNat by omega]
              rfl
          · rw [qup_self]; exact hm
        · cases h
      · cases h
    · cases h
  · cases h
/-- numbers that stand in the program, lengths of arrays -/
def qMi (i : Instr) (a : Nat) (st : List qV) (mm : qMm) (n : Nat) (hs : qHs) : Option qMr := match i with
  | .ldc _ => match pKs[a]? with | some q => some (2, (0, qCn q.2.2.toInt) :: st, [], mm, n, hs) | none => none
  | .ldc_w _ => match pKs[a]? with | some q => some (3, (0, qCn q.2.2.toInt) :: st, [], mm, n, hs) | none => none
  | .ldc2_w _ => match pK2[a]? with | some q => some (3, (1, qCn q.2.2.toInt) :: st, [], mm, n, hs) | none => none
  | .arraylength => match st with
    | (2, y) :: r => (match qRef y with
      | some o => (match qArr o with | some q => cond (Nat.ble 20 q.2.1 && Nat.ble q.2.1 25) (some (1, (0, qCn (q.2.2 : Int)) :: r, [], mm, n, hs)) none | none => none)
      | none => none)
    | _ => none
  | _ => none
theorem zm_len {lay : List sCl} {M : sM} {J : pHp} {c : Nat} {ini : Bool} {a o : Nat} {c1 : sCl} {rest : List Value} (hl : lay[o]? = some c1) (ht : 20 ≤ c1.1 ∧ c1.1 ≤ 25) : pMem false c ini .arraylength a (Value.ref o :: rest) (sHp lay M ++ J) = some (1, Value.int (Int32.ofNat c1.2.length) :: rest, sHp lay M ++ J) := by
  show (match (sHp lay M ++ J)[o]? with
    | some q => if 20 ≤ q.1 ∧ q.1 ≤ 25 then some (1, Value.int (Int32.ofNat q.2.length) :: rest, sHp lay M ++ J) else none
    | none => none) = _
  rw [shj_at hl]
  show (if 20 ≤ c1.1 ∧ c1.1 ≤ 25 then some (1, Value.int (Int32.ofNat (sCell M o c1).2.length) :: rest, sHp lay M ++ J) else none) = _
  rw [if_pos ht, scell_len]
theorem qmi_ok {c : Nat} {ini : Bool} {i : Instr} {a n : Nat} {st : List qV} {fs : List qF} {mm : qMm} {hs : qHs} {q : qMr} (h : qMi i a st mm n hs = some q) : qMok c ini i a J M0 S st fs mm n q := by
  intro ρ M hn h0 hsc hsm hf hm hI hF
  unfold qMi at h
  split at h
  · split at h
    · rename_i q' hq
      cases h
      refine ⟨ρ, M, ?_, fun _ hf => (nomatch hf), by rw [qup_self]; exact hm, hI, hF⟩
      rw [qup_self]
      show (match pKs[a]? with | some q => some (2, Value.int q.2.2 :: (qDS ρ st).map sE, sHp sLay M ++ J) | none => none) = some (2, Value.int (Int32.ofInt (qD ρ (qCn _))) :: _, _)
      rw [hq, qd_cn h0, i32_of]
      rfl
    · cases h
  · split at h
    · rename_i q' hq
      cases h
      refine ⟨ρ, M, ?_, fun _ hf => (nomatch hf), by rw [qup_self]; exact hm, hI, hF⟩
      rw [qup_self]
      show (match pKs[a]? with | some q => some (3, Value.int q.2.2 :: (qDS ρ st).map sE, sHp sLay M ++ J) | none => none) = some (3, Value.int (Int32.ofInt (qD ρ (qCn _))) :: _, _)
      rw [hq, qd_cn h0, i32_of]
      rfl
    · cases h
  · split at h
    · rename_i q' hq
      cases h
      refine ⟨ρ, M, ?_, fun _ hf => (nomatch hf), by rw [qup_self]; exact hm, hI, hF⟩
      rw [qup_self]
      show (match pK2[a]? with | some q => some (3, Value.long q.2.2 :: (qDS ρ st).map sE, sHp sLay M ++ J) | none => none) = some (3, Value.long (Int64.ofInt (qD ρ (qCn _))) :: _, _)
      rw [hq, qd_cn h0, i64_of]
      rfl
    · cases h
  · split at h
    · rename_i y r
      split at h
      · rename_i o ho
        have hy := qref_ok h0 ho
        split at h
        · rename_i p hp
          obtain ⟨h1, h2⟩ := zcond h
          cases h2
          rw [Bool.and_eq_true] at h1
          obtain ⟨hl, hb⟩ := qarr_ok hp
          refine ⟨ρ, M, ?_, fun _ hf => (nomatch hf), by rw [qup_self]; exact hm, hI, hF⟩
          have := zm_len (M := M) (J := J) (c := c) (ini := ini) (a := a) (rest := (qDS ρ r).map sE) hl ⟨Nat.le_of_ble_eq_true h1.1, Nat.le_of_ble_eq_true h1.2⟩
          rw [qup_self]
          refine Eq.trans ?_ (this.trans ?_)
          · show pMem false c ini .arraylength a (Value.ref (qD ρ y).toNat :: (qDS ρ r).map sE) _ = _
            rw [hy]
            rfl
          · show some (1, Value.int (Int32.ofNat (List.replicate p.2.2 _).length) :: _, _) = some (1, Value.int (Int32.ofInt (qD ρ (qCn _))) :: _, _)
            rw [List.length_replicate, qd_cn h0]
            rfl
        · cases h
      · cases h
    · cases h
  · cases h
end MEM3
end
section
/-! ARRAYS ARE COPIED; objects are called. -/
def sCp (M : sM) (o sp d dp n : Nat) : sM := fun o' k' => if o' = d ∧ dp ≤ k' ∧ k' < dp + n then M o (sp + (k' - dp)) else M o' k'
theorem shj_setc {lay : List sCl} {M M' : sM} {J : pHp} {d : Nat} {c : sCl} (h : lay[d]? = some c) (hne : ∀ o' k, o' ≠ d → M' o' k = M o' k) : (sHp lay M ++ J).set d (sCell M' d c) = sHp lay M' ++ J := by
  have hl : d < (sHp lay M).length := by rw [shp_len]; exact (List.getElem?_eq_some_iff.mp h).1
  rw [List.set_append_left _ _ hl]
  congr 1
  refine List.ext_getElem? fun j => ?_
  by_cases hj : j = d
  · subst hj
    rw [List.getElem?_set_self hl, shp_at h]
  · rw [List.getElem?_set_ne (Ne.symm hj)]
    unfold sHp
    rw [List.getElem?_mapIdx, List.getElem?_mapIdx]
    cases lay[j]? with
    | none => rfl
    | some c' =>
      show some (sCell M j c') = some (sCell M' j c')
      congr 1
      unfold sCell
      refine Prod.ext rfl (List.ext_getElem? fun k => ?_)
      rw [List.getElem?_mapIdx, List.getElem?_mapIdx]
      cases c'.2[k]? with
      | none => rfl
      | some q' =>
        show some (sE (sC q' (M j k))) = some (sE (sC q' (M' j k)))
        rw [hne j k hj]
theorem zm_row {M : sM} {o t m k : Nat} : (sCell M o (t, List.replicate m (0, 0))).2[k]? = if k < m then some (Value.int (Int32.ofInt (M o k))) else none := by
  show ((List.replicate m (0, 0)).mapIdx _)[k]? = _
  rw [List.getElem?_mapIdx, List.getElem?_replicate]
  by_cases h : k < m
  · rw [if_pos h, if_pos h]; rfl
  · rw [if_neg h, if_neg h]; rfl
theorem zm_cp {lay : List sCl} {M : sM} {J : pHp} {c : Nat} {ini : Bool} {ix o d mo md sp dp n : Nat} {rest : List Value} (ho : lay[o]? = some (20, List.replicate mo (0, 0))) (hd : lay[d]? = some (20, List.replicate md (0, 0))) (hmo : mo ≤ 4096) (hmd : md ≤ 4096) (h1 : sp + n ≤ mo) (h2 : dp + n ≤ md) (hr : (rest.map fun v : Value => v.category).sum ≤ 8) :
    pMem false c ini (.invokestatic ix) 5000 (.int (Int32.ofInt (n : Int)) :: .int (Int32.ofInt (dp : Int)) :: .ref d :: .int (Int32.ofInt (sp : Int)) :: .ref o :: rest) (sHp lay M ++ J) = some (3, rest, sHp lay (sCp M o sp d dp n) ++ J) := by
  have hc : ∀ k : Nat, k ≤ 4096 → (Int32.ofInt (k : Int)).toNatClampNeg = k ∧ ¬ Int32.ofInt (k : Int) < 0 := by
    intro k hk
    have hx : inR (k : Int) := ⟨by omega, by omega⟩
    refine ⟨by rw [inR_clamp hx]; rfl, fun h => ?_⟩
    have := (inR_lt hx inR_0).mp h
    omega
  obtain ⟨a1, a2⟩ := hc n (by omega)
  obtain ⟨b1, b2⟩ := hc dp (by omega)
  obtain ⟨c1, c2⟩ := hc sp (by omega)
  have hall : ∀ (o m : Nat), (sCell M o (20, List.replicate m (0, 0))).2.all (pInt false) = true := by
    intro o m
    refine List.all_eq_true.mpr fun v hv => ?_
    obtain ⟨k, hk⟩ := List.getElem?_of_mem hv
    rw [zm_row] at hk
    split at hk
    · cases hk; rfl
    · cases hk
  show (match (sHp lay M ++ J)[o]? with
    | some q => match (sHp lay M ++ J)[d]? with
      | some w => if 5000 = 5000 ∧ q.1 = 20 ∧ w.1 = 20 ∧ ¬ Int32.ofInt (sp : Int) < 0 ∧ ¬ Int32.ofInt (dp : Int) < 0 ∧ ¬ Int32.ofInt (n : Int) < 0 ∧ (Int32.ofInt (sp : Int)).toNatClampNeg + (Int32.ofInt (n : Int)).toNatClampNeg ≤ q.2.length ∧ (Int32.ofInt (dp : Int)).toNatClampNeg + (Int32.ofInt (n : Int)).toNatClampNeg ≤ w.2.length ∧ q.2.all (pInt false) = true ∧ w.2.all (pInt false) = true ∧ (rest.map fun v : Value => v.category).sum ≤ 8
        then some (3, rest, (sHp lay M ++ J).set d (w.1, w.2.take (Int32.ofInt (dp : Int)).toNatClampNeg ++ ((q.2.drop (Int32.ofInt (sp : Int)).toNatClampNeg).take (Int32.ofInt (n : Int)).toNatClampNeg ++ w.2.drop ((Int32.ofInt (dp : Int)).toNatClampNeg + (Int32.ofInt (n : Int)).toNatClampNeg)))) else none
      | none => none
    | none => none) = _
  rw [shj_at ho]
  show (match (sHp lay M ++ J)[d]? with
      | some w => if 5000 = 5000 ∧ (sCell M o (20, List.replicate mo (0, 0))).1 = 20 ∧ w.1 = 20 ∧ ¬ Int32.ofInt (sp : Int) < 0 ∧ ¬ Int32.ofInt (dp : Int) < 0 ∧ ¬ Int32.ofInt (n : Int) < 0 ∧ (Int32.ofInt (sp : Int)).toNatClampNeg + (Int32.ofInt (n : Int)).toNatClampNeg ≤ (sCell M o (20, List.replicate mo (0, 0))).2.length ∧ (Int32.ofInt (dp : Int)).toNatClampNeg + (Int32.ofInt (n : Int)).toNatClampNeg ≤ w.2.length ∧ (sCell M o (20, List.replicate mo (0, 0))).2.all (pInt false) = true ∧ w.2.all (pInt false) = true ∧ (rest.map fun v : Value => v.category).sum ≤ 8
        then some (3, rest, (sHp lay M ++ J).set d (w.1, w.2.take (Int32.ofInt (dp : Int)).toNatClampNeg ++ (((sCell M o (20, List.replicate mo (0, 0))).2.drop (Int32.ofInt (sp : Int)).toNatClampNeg).take (Int32.ofInt (n : Int)).toNatClampNeg ++ w.2.drop ((Int32.ofInt (dp : Int)).toNatClampNeg + (Int32.ofInt (n : Int)).toNatClampNeg)))) else none
      | none => none) = _
  rw [shj_at hd]
  dsimp only
  rw [if_pos ⟨rfl, rfl, rfl, c2, b2, a2, by rw [c1, a1, scell_len, List.length_replicate]; exact h1, by rw [b1, a1, scell_len, List.length_replicate]; exact h2, hall _ _, hall _ _, hr⟩, a1, b1, c1]
  congr 3
  rw [← shj_setc (M := M) (M' := sCp M o sp d dp n) hd (fun o' k ho' => if_neg (fun z => ho' z.1))]
  congr 1
  refine Prod.ext rfl (List.ext_getElem? fun k => ?_)
  rw [zm_row]
  show ((sCell M d (20, List.replicate md (0, 0))).2.take dp ++ (((sCell M o (20, List.replicate mo (0, 0))).2.drop sp).take n ++ (sCell M d (20, List.replicate md (0, 0))).2.drop (dp + n)))[k]? = _
  have hld : ((sCell M d (20, List.replicate md (0, 0))).2.take dp).length = dp := by rw [List.length_take, scell_len, List.length_replicate]; omega
  have hlo : (((sCell M o (20, List.replicate mo (0, 0))).2.drop sp).take n).length = n := by rw [List.length_take, List.length_drop, scell_len, List.length_replicate]; omega
  by_cases hk1 : k < dp
  · rw [List.getElem?_append_left (by omega), List.getElem?_take_of_lt hk1, zm_row]
    unfold sCp
    rw [if_neg (c := d = d ∧ _) (by omega)]
  · rw [List.getElem?_append_right (by omega), hld]
    by_cases hk2 : k < dp + n
    · rw [List.getElem?_append_left (by omega), List.getElem?_take_of_lt (by omega), List.getElem?_drop, zm_row, if_pos (by omega), if_pos (by omega)]
      unfold sCp
      rw [if_pos (c := d = d ∧ _) ⟨rfl, by omega, hk2⟩]
    · rw [List.getElem?_append_right (by omega), hlo, List.getElem?_drop, zm_row]
      unfold sCp
      rw [if_neg (c := d = d ∧ _) (by omega), show dp + n + (k - dp - n) = k by omega]
def qCat (st : List qV) : Nat := (st.map (fun v => cond (Nat.beq v.1 1) 2 1)).sum
theorem qcat_ok (ρ : Nat → Int) (st : List qV) : (((qDS ρ st).map sE).map fun v => v.category).sum = qCat st := by
  unfold qCat qDS
  rw [List.map_map, List.map_map]
  congr 1
  refine List.map_congr_left fun v _ => ?_
  show (sE (qDV ρ v)).category = _
  rw [se_cat2]
  show (if v.1 = 1 then 2 else 1) = _
  cases h : Nat.beq v.1 1 with
  | true => rw [if_pos (Nat.eq_of_beq_eq_true h)]; rfl
  | false => rw [if_neg (Nat.ne_of_beq_eq_false h)]; rfl
def qAc (S : sSt) (a : Nat) (st : List qV) (mm : qMm) (n : Nat) (hs : qHs) : Option qMr := match st with
  | (0, l) :: (0, dp) :: (2, d) :: (0, sp) :: (2, o) :: r => (match qRef l, qRef dp, qRef d, qRef sp, qRef o with
    | some l, some dp, some d, some sp, some o => (match qArr o, qArr d with
      | some p, some q => cond (Nat.beq a 5000 && (Nat.beq p.2.1 20 && (Nat.beq q.2.1 20 && (Nat.ble (sp + l) p.2.2 && (Nat.ble (dp + l) q.2.2 && (Nat.ble (qCat r) 8 && (sInA S d && (!(sInC zPl d) && (List.range l).all (fun j => decide (sRg d (dp + j) = sRg o (sp + j))))))))))) (some (3, r, [], qRmF mm d 1, n, hs)) none
      | _, _ => none)
    | _, _, _, _, _ => none)
  | _ => none
section MEM4
variable {J : pHp} {M0 : sM} {S : sSt}
theorem qac_ok {c : Nat} {ini : Bool} {ix a n : Nat} {st : List qV} {fs : List qF} {mm : qMm} {hs : qHs} {q : qMr} (h : qAc S a st mm n hs = some q) : qMok c ini (.invokestatic ix) a J M0 S st fs mm n q := by
  intro ρ M hn h0 hsc hsm hf hm hI hF
  unfold qAc at h
  split at h
  · rename_i l dp d sp o r
    split at h
    · rename_i l' dp' d' sp' o' hl hdp hd hsp ho
      have el := qref_ok h0 hl
      have edp := qref_ok h0 hdp
      have ed := qref_ok h0 hd
      have esp := qref_ok h0 hsp
      have eo := qref_ok h0 ho
      split at h
      · rename_i p q hp hq
        obtain ⟨h1, h2⟩ := zcond h
        cases h2
        rw [Bool.and_eq_true, Bool.and_eq_true, Bool.and_eq_true, Bool.and_eq_true, Bool.and_eq_true, Bool.and_eq_true, Bool.and_eq_true, Bool.and_eq_true, Bool.not_eq_true'] at h1
        obtain ⟨g1, g2, g3, g4, g5, g6, g7, g9, g8⟩ := h1
        have ea := Nat.eq_of_beq_eq_true g1
        subst ea
        obtain ⟨lo, bo⟩ := qarr_ok hp
        obtain ⟨ld, bd⟩ := qarr_ok hq
        rw [Nat.eq_of_beq_eq_true g2] at lo
        rw [Nat.eq_of_beq_eq_true g3] at ld
        have h9 := zm_cp (M := M) (J := J) (c := c) (ini := ini) (ix := ix) (rest := (qDS ρ r).map sE) lo ld bo bd (Nat.le_of_ble_eq_true g4) (Nat.le_of_ble_eq_true g5) (by rw [qcat_ok]; exact Nat.le_of_ble_eq_true g6)
        refine ⟨ρ, sCp M o' sp' d' dp' l', ?_, fun _ hf => (nomatch hf), ?_, ?_, ?_⟩
        · rw [qup_self]
          refine Eq.trans ?_ h9
          show pMem false c ini (.invokestatic ix) 5000 (.int (Int32.ofInt (qD ρ l)) :: .int (Int32.ofInt (qD ρ dp)) :: .ref (qD ρ d).toNat :: .int (Int32.ofInt (qD ρ sp)) :: .ref (qD ρ o).toNat :: (qDS ρ r).map sE) _ = _
          rw [el, edp, ed, esp, eo]
          rfl
        · rw [qup_self]
          intro p' hp'
          obtain ⟨h3, h4⟩ := List.mem_filter.mp hp'
          unfold sCp
          rw [if_neg]
          · exact hm p' h3
          · rintro ⟨h5, -⟩
            rw [h5, Nat.ble_eq_true_of_le (Nat.le_refl _), show Nat.blt d' (d' + 1) = true from Nat.ble_eq_true_of_le (Nat.le_refl _)] at h4
            cases h4
        · refine ⟨?_, xi_congr (fun o1 k1 h1 => if_neg (fun z => by rw [z.1, sinc_ok g9] at h1; cases h1)) hI.2⟩
          intro o1 k1 r1 hr1
          unfold sCp
          split
          · rename_i hz
            obtain ⟨rfl, hz1, hz2⟩ := hz
            have h3 : sRg o1 (dp' + (k1 - dp')) = sRg o' (sp' + (k1 - dp')) := of_decide_eq_true (List.all_eq_true.mp g8 (k1 - dp') (List.mem_range.mpr (by omega)))
            rw [show dp' + (k1 - dp') = k1 by omega] at h3
            exact hI.1 _ _ r1 (by rw [← h3]; exact hr1)
          · exact hI.1 _ _ r1 hr1
        · intro o1 k1 h3
          unfold sCp
          rw [if_neg]
          · exact hF o1 k1 h3
          · rintro ⟨rfl, -⟩
            rw [sina_ok g7] at h3
            cases h3
      · cases h
    · cases h
  · cases h
end MEM4
end
section
/-! CONTRACTS, AS FORMS: method, depth, arguments, what must hold of them, what must lie in memory, how many names these take, what may change, the kind of answer (0 int, 1 long, 9 none), what holds then, one of some ways (the answer's name is the next one), what lies in memory then. -/
abbrev qCt : Type := Nat × Nat × List qV × List qF × qMm × Nat × sSt × Nat × List (List qF) × List (Nat × Nat × Nat) × qF
def cK (c : qCt) : Nat := c.1
def cD (c : qCt) : Nat := c.2.1
def cA (c : qCt) : List qV := c.2.2.1
def cP (c : qCt) : List qF := c.2.2.2.1
def cM (c : qCt) : qMm := c.2.2.2.2.1
def cG (c : qCt) : Nat := c.2.2.2.2.2.1
def cS (c : qCt) : sSt := c.2.2.2.2.2.2.1
def cR (c : qCt) : Nat := c.2.2.2.2.2.2.2.1
def cO (c : qCt) : List (List qF) := c.2.2.2.2.2.2.2.2.1
def cT (c : qCt) : List (Nat × Nat × Nat) := c.2.2.2.2.2.2.2.2.2.1
/-- how much deeper it may go -/
def cE (c : qCt) : qF := c.2.2.2.2.2.2.2.2.2.2
def qRv (rt : Nat) (z : Int) : Option sV := match rt with
  | 0 => some (0, z)
  | 1 => some (1, z)
  | _ => none
/-- a name, or from 100000 on a number -/
def qTv (ρ : Nat → Int) (a : Nat) : Int := cond (Nat.blt a 100000) (ρ a) ((a : Int) - 100000)
def qPost (c : qCt) (ρ : Nat → Int) (M : sM) : Option sV → sM → Prop := fun rv M' => ∃ ρ' : Nat → Int, (∀ a, a < cG c → ρ' a = ρ a) ∧ rv = qRv (cR c) (ρ' (cG c)) ∧ (∃ al ∈ cO c, ∀ f ∈ al, 0 ≤ qD ρ' f) ∧ (∀ q ∈ cT c, M' q.1 q.2.1 = qTv ρ' q.2.2) ∧ sI M' ∧ sF (cS c) M M'
def qCokN (c : qCt) (N : Nat) : Prop := ∀ (J : pHp) (ρ : Nat → Int) (M : sM), ρ 0 = 1 → (∀ f ∈ cP c, 0 ≤ qD ρ f) → (∀ q ∈ cM c, M q.1 q.2.1 = qD ρ q.2.2) → sI M → (cD c : Int) + qD ρ (cE c) ≤ N → sX sLay N (cK c) J (qDS ρ (cA c)) M (qPost c ρ M)
def qCok (c : qCt) : Prop := ∀ N, qCokN c N
/-! places that are looked at, one by one -/
abbrev qFm : Type := List qF × qMm × Nat
abbrev qFmH : Type := List qF × qMm × Nat × qHs
def qTch (g : Nat) (lv : qLv) : qF → List qV → List qF → qMm → Nat → Option (List qV × qFm)
  | [], st, fs, mm, n => some (st, fs, mm, n)
  | q :: t, st, fs, mm, n => cond (zNg q.1) (match st[q.2]? with
      | some (0, _) => cond (qScA g n lv st fs mm) (qTch g lv t (st.set q.2 (0, [(1, n)])) (fs ++ qInR n) mm (n + 1)) none
      | some (1, _) => cond (qScA g n lv st fs mm) (qTch g lv t (st.set q.2 (1, [(1, n)])) (fs ++ qInL n) mm (n + 1)) none
      | _ => none) (match qFind mm q.1.toNat q.2 with
      | some _ => qTch g lv t st fs mm n
      | none => cond (qScA g n lv st fs mm && Nat.blt q.2 1000) (qTch g lv t st (fs ++ qRf (sRg q.1.toNat q.2) n) ((q.1.toNat, q.2, [(1, n)]) :: mm) (n + 1)) none)
theorem sr_sts {lay : List sCl} {d K : Nat} {J : pHp} {pc : Nat} {lv : sLv} {st st' : List sV} {M : sM} {Q : Option sV → sM → Prop} (h : st.map sE = st'.map sE) (k : sR lay d K J pc lv st M Q) : sR lay d K J pc lv st' M Q := by
  obtain ⟨n, rv, M', h1, h2⟩ := k
  exact ⟨n, rv, M', by rw [← h]; exact h1, h2⟩
section RUN
variable {d K : Nat} {J : pHp} {Q : Option sV → sM → Prop} {M0 : sM} {S : sSt} {g : Nat} {ρ0 : Nat → Int}
theorem qg_tch (hg1 : 0 < g) {pc : Nat} {lv : qLv} : ∀ {t : qF} {st : List qV} {fs : List qF} {mm : qMm} {n : Nat} {q : List qV × qFm}, qTch g lv t st fs mm n = some q → qG d K J Q M0 S g ρ0 pc lv q.1 q.2.1 q.2.2.1 → qG d K J Q M0 S g ρ0 pc lv st fs mm
  | [], st, fs, mm, n, q, h, k => by cases h; exact k
  | p :: t, st, fs, mm, n, q, h, k => by
    unfold qTch at h
    cases hz : zNg p.1 with
    | true =>
      rw [hz, cond_true] at h
      split at h
      · rename_i f hf0
        cases hsc : qScA g n lv st fs mm with
        | false => rw [hsc] at h; cases h
        | true =>
          rw [hsc, cond_true] at h
          have k2 := qg_tch hg1 h k
          intro ρ M hg h0 hf hm hI hF
          obtain ⟨e1, e2, e3, e4, e5, e6⟩ := qg_new (ρ1 := fun _ => (Int32.ofInt (qD ρ f)).toInt) hg1 hsc hg h0 hf hm
          have hnn : qUp ρ (fun _ => (Int32.ofInt (qD ρ f)).toInt) n n = (Int32.ofInt (qD ρ f)).toInt := qup_ge (Nat.le_refl n)
          have h3 := k2 _ M e1 e2 (fun f' hf' => by
            rcases List.mem_append.mp hf' with h | h
            · exact e3 f' h
            · exact qinr_ok e2 hnn (i32_rng _) f' h) e4 hI hF
          rw [e5] at h3
          refine sr_sts ?_ h3
          rw [← e6]
          unfold qDS
          rw [List.map_set, List.map_set]
          refine List.ext_getElem? fun j => ?_
          by_cases hj : p.2 = j
          · subst hj
            have hlt : p.2 < (List.map sE (List.map (qDV (qUp ρ (fun _ => (Int32.ofInt (qD ρ f)).toInt) n)) st)).length := by
              rw [List.length_map, List.length_map]
              exact (List.getElem?_eq_some_iff.mp hf0).1
            rw [List.getElem?_set_self hlt, List.getElem?_map, List.getElem?_map, hf0]
            show some (Value.int (Int32.ofInt (qD _ [(1, n)]))) = some (Value.int (Int32.ofInt (qD _ f)))
            have e7 : qD (qUp ρ (fun _ => (Int32.ofInt (qD ρ f)).toInt) n) f = qD ρ f := qd_sc (fun a ha => qup_lt ha) (List.all_eq_true.mp (qsa hsc).2.2.1 (0, f) (List.mem_of_getElem? hf0))
            rw [qd_at, hnn, e7, show (1 : Int) * (Int32.ofInt (qD ρ f)).toInt = (Int32.ofInt (qD ρ f)).toInt by omega, i32_of]
          · rw [List.getElem?_set_ne hj]
      · rename_i f hf0
        cases hsc : qScA g n lv st fs mm with
        | false => rw [hsc] at h; cases h
        | true =>
          rw [hsc, cond_true] at h
          have k2 := qg_tch hg1 h k
          intro ρ M hg h0 hf hm hI hF
          obtain ⟨e1, e2, e3, e4, e5, e6⟩ := qg_new (ρ1 := fun _ => (Int64.ofInt (qD ρ f)).toInt) hg1 hsc hg h0 hf hm
          have hnn : qUp ρ (fun _ => (Int64.ofInt (qD ρ f)).toInt) n n = (Int64.ofInt (qD ρ f)).toInt := qup_ge (Nat.le_refl n)
          have h3 := k2 _ M e1 e2 (fun f' hf' => by
            rcases List.mem_append.mp hf' with h | h
            · exact e3 f' h
            · exact qinl_ok e2 hnn (i64_rng _) f' h) e4 hI hF
          rw [e5] at h3
          refine sr_sts ?_ h3
          rw [← e6]
          unfold qDS
          rw [List.map_set, List.map_set]
          refine List.ext_getElem? fun j => ?_
          by_cases hj : p.2 = j
          · subst hj
            have hlt : p.2 < (List.map sE (List.map (qDV (qUp ρ (fun _ => (Int64.ofInt (qD ρ f)).toInt) n)) st)).length := by
              rw [List.length_map, List.length_map]
              exact (List.getElem?_eq_some_iff.mp hf0).1
            rw [List.getElem?_set_self hlt, List.getElem?_map, List.getElem?_map, hf0]
            show some (Value.long (Int64.ofInt (qD _ [(1, n)]))) = some (Value.long (Int64.ofInt (qD _ f)))
            have e7 : qD (qUp ρ (fun _ => (Int64.ofInt (qD ρ f)).toInt) n) f = qD ρ f := qd_sc (fun a ha => qup_lt ha) (List.all_eq_true.mp (qsa hsc).2.2.1 (1, f) (List.mem_of_getElem? hf0))
            rw [qd_at, hnn, e7, show (1 : Int) * (Int64.ofInt (qD ρ f)).toInt = (Int64.ofInt (qD ρ f)).toInt by omega, i64_of]
          · rw [List.getElem?_set_ne hj]
      · cases h
    | false =>
      rw [hz, cond_false] at h
      split at h
      · exact qg_tch hg1 h k
      · cases hsc : (qScA g n lv st fs mm && Nat.blt p.2 1000) with
        | false => rw [hsc] at h; cases h
        | true =>
          rw [hsc, cond_true] at h
          rw [Bool.and_eq_true] at hsc
          obtain ⟨hsc, hk1⟩ := hsc
          have k2 := qg_tch hg1 h k
          intro ρ M hg h0 hf hm hI hF
          obtain ⟨e1, e2, e3, e4, e5, e6⟩ := qg_new (ρ1 := fun _ => M p.1.toNat p.2) hg1 hsc hg h0 hf hm
          have hnn : qUp ρ (fun _ => M p.1.toNat p.2) n n = M p.1.toNat p.2 := qup_ge (Nat.le_refl n)
          have h3 := k2 _ M e1 e2 (fun f hf' => by
            rcases List.mem_append.mp hf' with h | h
            · exact e3 f h
            · exact qrf_ok e2 hnn (fun r hr => hI.1 _ _ r hr) f h) (fun r hr => by
            rcases List.mem_cons.mp hr with rfl | hr
            · show M p.1.toNat (zIx _ p.2) = qD _ [(1, n)]
              rw [zix_b hk1, qd_at, hnn]; omega
            · exact e4 r hr) hI hF
          rw [e5, e6] at h3
          exact h3
/-! calls -/
def qArg (i : Instr) (a : Nat) (st : List qV) (fs : List qF) (hs : qHs) : Option (List qV × List qV × qHs) :=
  cond (Nat.blt a 4000 && (Nat.blt (a % 1000) pMs.length && Nat.ble (pMt (a % 1000)).2.2.2.2.2 st.length)) (match i with
    | .invokestatic _ => cond (Nat.ble (qCat (st.drop (pMt (a % 1000)).2.2.2.2.2)) 8) (some ((st.take (pMt (a % 1000)).2.2.2.2.2).reverse, st.drop (pMt (a % 1000)).2.2.2.2.2, hs)) none
    | .invokevirtual _ => (match st.drop (pMt (a % 1000)).2.2.2.2.2 with
      | (2, x) :: r => (match qRef x with
        | some o => (match sLay[o]? with
          | some q => cond (Nat.ble (qCat r) 8 && (Nat.beq q.1 (pMt (a % 1000)).1 && Nat.blt (pMt (a % 1000)).1 13)) (some ((2, x) :: (st.take (pMt (a % 1000)).2.2.2.2.2).reverse, r, hs)) none
          | none => none)
        | none => (match hs with
          | [(j, 0)] :: u :: v :: t => (match sFm[j.toNat]? with
            | some (b, m, c, _) => cond (qEnt fs (qSub x (qCn (b : Int))) u && (qEnt fs (qSub (qCn ((b : Int) + m - 1)) x) v && (Nat.ble (qCat r) 8 && (Nat.beq c (pMt (a % 1000)).1 && Nat.blt (pMt (a % 1000)).1 13)))) (some ((2, x) :: (st.take (pMt (a % 1000)).2.2.2.2.2).reverse, r, t)) none
            | none => none)
          | _ => none))
      | (3, x) :: r => (match qKo x with
        | some 0 => cond (Nat.ble (qCat r) 8 && Nat.beq (pMt (a % 1000)).1 14) (some ((3, x) :: (st.take (pMt (a % 1000)).2.2.2.2.2).reverse, r, hs)) none
        | _ => none)
      | _ => none)
    | _ => none) none
theorem zm_cls {lay : List sCl} {M : sM} {J : pHp} {o : Nat} {c : sCl} (h : lay[o]? = some c) : ((sHp lay M ++ J)[o]?).map (fun q => q.1) = some c.1 := by
  rw [shj_at h]
  rfl
theorem qarg_ok {i : Instr} {pc a : Nat} {st as rest : List qV} {fs : List qF} {hs hs' : qHs} (h : qArg i a st fs hs = some (as, rest, hs')) {ρ : Nat → Int} (h0 : ρ 0 = 1) (hf : ∀ f ∈ fs, 0 ≤ qD ρ f) (M : sM) (J : pHp) : pArg (pc, i, 3, a) ((qDS ρ st).map sE) (sHp sLay M ++ J) = some (a % 1000, (qDS ρ as).map sE, (qDS ρ rest).map sE) := by
  unfold qArg at h
  cases h1 : (Nat.blt a 4000 && (Nat.blt (a % 1000) pMs.length && Nat.ble (pMt (a % 1000)).2.2.2.2.2 st.length)) with
  | false => rw [h1] at h; cases h
  | true =>
    rw [h1, cond_true] at h
    rw [Bool.and_eq_true, Bool.and_eq_true] at h1
    have hlen : ((qDS ρ st).map sE).length = st.length := by unfold qDS; rw [List.length_map, List.length_map]
    have hdrop : ((qDS ρ st).map sE).drop (pMt (a % 1000)).2.2.2.2.2 = (qDS ρ (st.drop (pMt (a % 1000)).2.2.2.2.2)).map sE := by unfold qDS; rw [List.map_drop, List.map_drop]
    have htake : (((qDS ρ st).map sE).take (pMt (a % 1000)).2.2.2.2.2).reverse = (qDS ρ (st.take (pMt (a % 1000)).2.2.2.2.2).reverse).map sE := by unfold qDS; rw [List.map_reverse, List.map_reverse, List.map_take, List.map_take]
    have hc : (3 : Nat) = 3 ∧ a < 4000 ∧ a % 1000 < pMs.length ∧ (pMt (a % 1000)).2.2.2.2.2 ≤ ((qDS ρ st).map sE).length := ⟨rfl, zblt h1.1, zblt h1.2.1, by rw [hlen]; exact Nat.le_of_ble_eq_true h1.2.2⟩
    unfold pArg
    dsimp only
    rw [if_pos hc]
    split at h
    · obtain ⟨h2, h3⟩ := zcond h
      cases h3
      dsimp only
      rw [hdrop, htake, if_pos (by rw [qcat_ok]; exact Nat.le_of_ble_eq_true h2)]
    · split at h
      · rename_i x r hd
        rw [hd] at hdrop
        have hV : ∀ (o : Nat), qD ρ x = (o : Int) → Nat.ble (qCat r) 8 = true → (∃ c, sLay[o]? = some c ∧ c.1 = (pMt (a % 1000)).1) → (pMt (a % 1000)).1 < 13 → (match ((qDS ρ st).map sE).drop (pMt (a % 1000)).2.2.2.2.2 with
            | Value.ref o :: r => if (r.map fun v : Value => v.category).sum ≤ 8 ∧ ((sHp sLay M ++ J)[o]?).map (fun q => q.1) = some (pMt (a % 1000)).1 ∧ (pMt (a % 1000)).1 < 13 then some (a % 1000, Value.ref o :: (((qDS ρ st).map sE).take (pMt (a % 1000)).2.2.2.2.2).reverse, r) else none
            | Value.float u :: r => if (r.map fun v : Value => v.category).sum ≤ 8 ∧ u = 0 ∧ (pMt (a % 1000)).1 = 14 then some (a % 1000, Value.float u :: (((qDS ρ st).map sE).take (pMt (a % 1000)).2.2.2.2.2).reverse, r) else none
            | _ => none) = some (a % 1000, (qDS ρ ((2, x) :: (st.take (pMt (a % 1000)).2.2.2.2.2).reverse)).map sE, (qDS ρ r).map sE) := by
          intro o hx hc8 hcl h13
          obtain ⟨c, hl, hcc⟩ := hcl
          rw [hdrop]
          show (if (((qDS ρ r).map sE).map fun v : Value => v.category).sum ≤ 8 ∧ ((sHp sLay M ++ J)[(qD ρ x).toNat]?).map (fun q => q.1) = some (pMt (a % 1000)).1 ∧ (pMt (a % 1000)).1 < 13 then some (a % 1000, Value.ref (qD ρ x).toNat :: (((qDS ρ st).map sE).take (pMt (a % 1000)).2.2.2.2.2).reverse, (qDS ρ r).map sE) else none) = some (a % 1000, Value.ref (qD ρ x).toNat :: (qDS ρ (st.take (pMt (a % 1000)).2.2.2.2.2).reverse).map sE, (qDS ρ r).map sE)
          rw [if_pos, htake]
          refine ⟨by rw [qcat_ok]; exact Nat.le_of_ble_eq_true hc8, ?_, h13⟩
          have e : (qD ρ x).toNat = o := by omega
          rw [e, zm_cls hl, hcc]
        split at h
        · rename_i o ho
          split at h
          · rename_i q hl
            obtain ⟨h2, h3⟩ := zcond h
            cases h3
            rw [Bool.and_eq_true, Bool.and_eq_true] at h2
            exact hV o (qref_ok h0 ho) h2.1 ⟨q, hl, Nat.eq_of_beq_eq_true h2.2.1⟩ (zblt h2.2.2)
          · cases h
        · split at h
          · rename_i j u v t
            split at h
            · rename_i b m c w hj
              obtain ⟨h2, h3⟩ := zcond h
              cases h3
              rw [Bool.and_eq_true, Bool.and_eq_true, Bool.and_eq_true, Bool.and_eq_true] at h2
              have hb1 := qd_ent h0 hf h2.1
              have hb2 := qd_ent h0 hf h2.2.1
              rw [qd_sub, qd_cn h0] at hb1 hb2
              obtain ⟨hl, -⟩ := sfm_at (List.mem_of_getElem? hj) (o := (qD ρ x).toNat) (by omega) (by omega)
              exact hV (qD ρ x).toNat (by omega) h2.2.2.1 ⟨_, hl, Nat.eq_of_beq_eq_true h2.2.2.2.1⟩ (zblt h2.2.2.2.2)
            · cases h
          · cases h
      · rename_i x r hd
        rw [hd] at hdrop
        split at h
        · rename_i hx
          obtain ⟨h2, h3⟩ := zcond h
          cases h3
          rw [Bool.and_eq_true] at h2
          have ex := qd_ko h0 hx
          dsimp only
          rw [hdrop]
          show (if (((qDS ρ _).map sE).map fun v : Value => v.category).sum ≤ 8 ∧ UInt32.ofNat (qD ρ x).toNat = 0 ∧ (pMt (a % 1000)).1 = 14 then some (a % 1000, Value.float (UInt32.ofNat (qD ρ x).toNat) :: (((qDS ρ st).map sE).take (pMt (a % 1000)).2.2.2.2.2).reverse, (qDS ρ _).map sE) else none) = some (a % 1000, Value.float (UInt32.ofNat (qD ρ x).toNat) :: (qDS ρ (st.take (pMt (a % 1000)).2.2.2.2.2).reverse).map sE, (qDS ρ _).map sE)
          rw [if_pos ⟨by rw [qcat_ok]; exact Nat.le_of_ble_eq_true h2.1, by rw [ex]; rfl, Nat.eq_of_beq_eq_true h2.2⟩, htake]
        · cases h
      · cases h
    · cases h
/-- facts that others show, one hint each -/
def qEnts (fs : List qF) : List qF → qHs → Option qHs
  | [], hs => some hs
  | f :: l, h :: hs => cond (qEnt fs f h) (qEnts fs l hs) none
  | _ :: _, [] => none
theorem qents_ok {ρ : Nat → Int} (h0 : ρ 0 = 1) {fs : List qF} (hf : ∀ f ∈ fs, 0 ≤ qD ρ f) : ∀ {l : List qF} {hs hs' : qHs}, qEnts fs l hs = some hs' → ∀ f ∈ l, 0 ≤ qD ρ f
  | [], _, _, _, f, h => nomatch h
  | g :: l, [], _, h, _, _ => nomatch h
  | g :: l, a :: hs, hs', h, f, hm => by
    unfold qEnts at h
    cases h1 : qEnt fs g a with
    | false => rw [h1] at h; cases h
    | true =>
      rw [h1, cond_true] at h
      rcases List.mem_cons.mp hm with rfl | hm
      · exact qd_ent h0 hf h1
      · exact qents_ok h0 hf h f hm
def qSg (l : List qF) (a : Nat) : qF := (l[a]?).getD []
/-- names of a contract in the caller: those ahead of g by the list, the others new ones from n on -/
def qSn (l : List qF) (g n a : Nat) : qF := cond (Nat.blt a g) (qSg l a) [(1, n + (a - g))]
def qCall (cs : List qCt) (c0 : qCt) (S : sSt) (g : Nat) (K2 : Nat) (as rest : List qV) (lv : qLv) (fs : List qF) (mm : qMm) (n : Nat) (hs : qHs) : Option (List qV × List (List qF) × qMm × Nat × qHs) := match hs with
  | [(j, 0)] :: hs1 => (match cs[j.toNat]? with
    | some c => (match qEnts fs (qSub (qAdd (cE c0) (qCn ((cD c0 : Int) - 1))) (qAdd (qSb (qSg ([(1, 0)] :: hs1.take (cG c - 1))) (cE c)) (qCn (cD c : Int))) :: (cP c).map (qSb (qSg ([(1, 0)] :: hs1.take (cG c - 1))))) (hs1.drop (cG c - 1)) with
      | some hs2 => cond (Nat.beq (cK c) K2 && (true && ((as == (cA c).map (fun v => (v.1, qSb (qSg ([(1, 0)] :: hs1.take (cG c - 1))) v.2))) && ((cM c).all (fun q => Nat.blt q.2.1 1000 && qFind mm q.1 q.2.1 == some (qSb (qSg ([(1, 0)] :: hs1.take (cG c - 1))) q.2.2)) && (sSs (cS c) S && (qScA g n lv rest fs mm && (Nat.blt 0 (cG c) && ((cT c).all (fun q => Nat.blt q.2.1 1000) && (hs1.take (cG c - 1)).all (qSc n))))))))) (some ((match cR c with | 0 => (0, [(1, n)]) :: rest | 1 => (1, [(1, n)]) :: rest | _ => rest), (cO c).map (fun al => fs ++ al.map (qSb (qSn ([(1, 0)] :: hs1.take (cG c - 1)) (cG c) n))), (cT c).map (fun q => (q.1, q.2.1, cond (Nat.blt q.2.2 100000) (qSn ([(1, 0)] :: hs1.take (cG c - 1)) (cG c) n q.2.2) (qCn ((q.2.2 : Int) - 100000)))) ++ mm.filter (fun q => !(cond (Nat.blt q.2.1 1000) (sIn (cS c) q.1 q.2.1) (sInC (cS c) q.1))), n + 1 + (cT c).length, hs2)) none
      | none => none)
    | none => none)
  | _ => none
theorem qcall_ok {c0 : qCt} (hDd : ∀ ρ : Nat → Int, (∀ a, a < g → ρ a = ρ0 a) → (cD c0 : Int) + qD ρ (cE c0) ≤ (d + 1 : Nat)) (hg1 : 0 < g) {cs : List qCt} (hcs : ∀ c ∈ cs, qCokN c d) {i : Instr} {pc a n : Nat} {as rest st' st : List qV} {lv : qLv} {fs : List qF} {fl : List (List qF)} {mm mm' : qMm} {n' : Nat} {hs hs' hs0 hs1 : qHs} (he : (pc, i, 3, a) ∈ pTs.getD K []) (ha : a < 99999) (harg : qArg i a st fs hs0 = some (as, rest, hs1)) (h : qCall cs c0 S g (a % 1000) as rest lv fs mm n hs = some (st', fl, mm', n', hs')) (k : ∀ fs' ∈ fl, qG d K J Q M0 S g ρ0 (pc + 3) lv st' fs' mm') : qG d K J Q M0 S g ρ0 pc lv st fs mm := by
  intro ρ M hg h0 hf hm hI hF
  unfold qCall at h
  split at h
  · rename_i j hs2
    split at h
    · rename_i c hj
      have hc := hcs c (List.mem_of_getElem? hj)
      split at h
      · rename_i hs3 hen
        obtain ⟨h1, h2⟩ := zcond h
        cases h2
        rw [Bool.and_eq_true, Bool.and_eq_true, Bool.and_eq_true, Bool.and_eq_true, Bool.and_eq_true, Bool.and_eq_true, Bool.and_eq_true, Bool.and_eq_true] at h1
        obtain ⟨g1, g2, g3, g4, g5, g6, g7, g9, g8⟩ := h1
        generalize hσ : ([(1, 0)] :: hs2.take (cG c - 1) : List qF) = σ at *
        have hcg : 0 < cG c := zblt g7
        have hσsc : ∀ b, qSc n (qSg σ b) = true := by
          intro b
          unfold qSg
          have hn0 : Nat.blt 0 n = true := Nat.ble_eq_true_of_le (by have := (qsa g6).1; omega)
          cases hb : σ[b]? with
          | none => rfl
          | some f =>
            have hmem := List.mem_of_getElem? hb
            rw [← hσ] at hmem
            rcases List.mem_cons.mp hmem with rfl | hmem
            · show (Nat.blt 0 n && true) = true
              rw [hn0]; rfl
            · exact List.all_eq_true.mp g8 f hmem
        let ρc : Nat → Int := fun b => qD ρ (qSg σ b)
        have hρc0 : ρc 0 = 1 := by
          show qD ρ (qSg σ 0) = 1
          rw [← hσ]
          show qD ρ [(1, 0)] = 1
          rw [qd_at, h0]; rfl
        have hcP : ∀ f ∈ cP c, 0 ≤ qD ρc f := by
          intro f hf'
          have := qents_ok h0 hf hen _ (List.mem_cons_of_mem _ (List.mem_map_of_mem hf'))
          rw [qd_sb] at this
          exact this
        have hcM : ∀ q ∈ cM c, M q.1 q.2.1 = qD ρc q.2.2 := by
          intro q hq
          have h5 := List.all_eq_true.mp g4 q hq
          rw [Bool.and_eq_true] at h5
          have h6 : qFind mm q.1 q.2.1 = some (qSb (qSg σ) q.2.2) := eq_of_beq h5.2
          have h7 := qfind_ok hm h6
          rw [zix_b h5.1] at h7
          rw [h7, qd_sb]
        have hx := hc J ρc M hρc0 hcP hcM hI (by
          have h8 := qents_ok h0 hf hen _ List.mem_cons_self
          rw [qd_sub, qd_add, qd_add, qd_cn h0, qd_cn h0, qd_sb] at h8
          have h9 := hDd ρ hg
          have h10 : qD ρc (cE c) = qD (fun a => qD ρ (qSg σ a)) (cE c) := rfl
          rw [h10]
          omega)
        rw [Nat.eq_of_beq_eq_true g1] at hx
        have has : qDS ρc (cA c) = qDS ρ as := by
          have e : as = (cA c).map (fun v => (v.1, qSb (qSg σ) v.2)) := eq_of_beq g3
          rw [e]
          unfold qDS
          rw [List.map_map]
          refine List.map_congr_left fun v _ => ?_
          show (v.1, qD ρc v.2) = (v.1, qD ρ (qSb (qSg σ) v.2))
          rw [qd_sb]
        rw [has] at hx
        refine sr_call he ha (qarg_ok harg h0 hf M J) (sx_mono hx ?_) (n := 0)
        rintro rv M' ⟨ρ', hr1, hr2, ⟨al, hal, hr3⟩, hr4, hr5, hr6⟩
        obtain ⟨e1, e2, e3, e4, e5, e6⟩ := qg_new (ρ1 := fun b => ρ' (cG c + (b - n))) hg1 g6 hg h0 hf hm
        generalize hρn : qUp ρ (fun b => ρ' (cG c + (b - n))) n = ρn at *
        have hlt : ∀ b, b < n → ρn b = ρ b := fun b hb => by rw [← hρn]; exact qup_lt hb
        have hge : ∀ b, ρn (n + b) = ρ' (cG c + b) := fun b => by
          rw [← hρn, qup_ge (by omega), show n + b - n = b by omega]
        have hsn : ∀ b, qD ρn (qSn σ (cG c) n b) = ρ' b := by
          intro b
          unfold qSn
          cases hb : Nat.blt b (cG c) with
          | true =>
            show qD ρn (qSg σ b) = ρ' b
            rw [qd_sc hlt (hσsc b), hr1 b (zblt hb)]
          | false =>
            show qD ρn [(1, n + (b - cG c))] = ρ' b
            have hb2 : cG c ≤ b := by
              rcases Nat.lt_or_ge b (cG c) with h | h
              · have : Nat.blt b (cG c) = true := Nat.ble_eq_true_of_le h
                rw [this] at hb; cases hb
              · exact h
            rw [qd_at, hge, show cG c + (b - cG c) = b by omega]
            omega
        have h3 := k _ (List.mem_map_of_mem hal) ρn M' e1 e2 (fun f hf' => by
          rcases List.mem_append.mp hf' with hf' | hf'
          · exact e3 f hf'
          · obtain ⟨f0, hf0, rfl⟩ := List.mem_map.mp hf'
            rw [qd_sb, show (fun a => qD ρn (qSn σ (cG c) n a)) = ρ' from funext hsn]
            exact hr3 f0 hf0) (fun q hq => by
          rcases List.mem_append.mp hq with hq | hq
          · obtain ⟨q0, hq0, rfl⟩ := List.mem_map.mp hq
            show M' q0.1 (zIx ρn q0.2.1) = qD ρn (cond (Nat.blt q0.2.2 100000) (qSn σ (cG c) n q0.2.2) (qCn ((q0.2.2 : Int) - 100000)))
            rw [zix_b (List.all_eq_true.mp g9 q0 hq0), hr4 q0 hq0]
            unfold qTv
            cases Nat.blt q0.2.2 100000 with
            | true => exact (hsn q0.2.2).symm
            | false => exact (qd_cn e2 _).symm
          · obtain ⟨hq1, hq2⟩ := List.mem_filter.mp hq
            rw [Bool.not_eq_true'] at hq2
            rw [hr6 _ _ (by
              cases hk : Nat.blt q.2.1 1000 with
              | true =>
                rw [hk, cond_true] at hq2
                rw [zix_b hk]
                exact hq2
              | false =>
                rw [hk, cond_false] at hq2
                exact sinc_ok hq2 _)]
            exact e4 q hq1) hr5 (sf_t hF hr6 g5)
        rw [e5] at h3
        have hst : qDS ρn (match cR c with | 0 => (0, [(1, n)]) :: rest | 1 => (1, [(1, n)]) :: rest | _ => rest) = rv.toList ++ qDS ρ rest := by
          rw [hr2]
          have hz : ρn n = ρ' (cG c) := hge 0
          unfold qRv
          split
          · show (0, qD ρn [(1, n)]) :: qDS ρn rest = (0, ρ' (cG c)) :: qDS ρ rest
            rw [qd_at, hz, e6, show (1 : Int) * ρ' (cG c) = ρ' (cG c) by omega]
          · show (1, qD ρn [(1, n)]) :: qDS ρn rest = (1, ρ' (cG c)) :: qDS ρ rest
            rw [qd_at, hz, e6, show (1 : Int) * ρ' (cG c) = ρ' (cG c) by omega]
          · exact e6
        rw [hst] at h3
        exact h3
      · cases h
    · cases h
  · cases h
end RUN
end
section
/-! RETURNS, ONE INSTRUCTION, JUMPS TO A CUT, A RUN. -/
def qSr (g : Nat) (f : qF) (pl : List qF) (a : Nat) : qF := cond (Nat.blt a g) [(1, a)] (cond (Nat.beq a g) f (qSg pl (a - g - 1)))
/-- what must lie at a place at the end, as a form -/
def qTf (g : Nat) (f : qF) (pl : List qF) (a : Nat) : qF := cond (Nat.blt a 100000) (qSr g f pl a) (qCn ((a : Int) - 100000))
def qPo (c : qCt) (f : qF) (fs : List qF) (mm : qMm) (hs : qHs) : Option qHs := match hs with
  | [(j, 0)] :: hs1 => (match (cO c)[j.toNat]? with
    | some al => cond ((cT c).all (fun q => Nat.blt q.2.1 1000 && (qFind mm q.1 q.2.1 == some (qTf (cG c) f ((cT c).map (fun q => (qFind mm q.1 q.2.1).getD [])) q.2.2)))) (qEnts fs (al.map (qSb (qSr (cG c) f ((cT c).map (fun q => (qFind mm q.1 q.2.1).getD []))))) hs1) none
    | none => none)
  | _ => none
def qRet (c : qCt) (rt : Option FieldType) (i : Instr) (len : Nat) (st : List qV) (fs : List qF) (mm : qMm) (hs : qHs) : Option qHs := match i with
  | .ireturn => match st with
    | [(0, f)] => cond (Nat.beq (cR c) 0 && Nat.beq len 1) (match rt with
      | some .int => qPo c f fs mm hs
      | some .boolean => (match hs with | a :: b :: hs' => cond (qEnt fs f a && qEnt fs (qSub (qCn 1) f) b) (qPo c f fs mm hs') none | _ => none)
      | some ty => (match qKo f with | some k => cond (decide (narrow ty (.int (Int32.ofInt k)) = .int (Int32.ofInt k))) (qPo c f fs mm hs) none | none => none)
      | _ => none) none
    | _ => none
  | .lreturn => match st with
    | [(1, f)] => cond (Nat.beq (cR c) 1 && Nat.beq len 1) (match rt with
      | some .long => qPo c f fs mm hs
      | _ => none) none
    | _ => none
  | .return_ => match st with
    | [] => cond (Nat.beq (cR c) 9 && Nat.beq len 1) (match rt with
      | none => qPo c [] fs mm hs
      | _ => none) none
    | _ => none
  | _ => none
theorem qpo_ok {c : qCt} {f : qF} {fs : List qF} {mm : qMm} {hs hs' : qHs} (h : qPo c f fs mm hs = some hs') {ρ ρc : Nat → Int} {M0 M : sM} (h0 : ρ 0 = 1) (hf : ∀ f ∈ fs, 0 ≤ qD ρ f) (hm : ∀ q ∈ mm, M q.1 (zIx ρ q.2.1) = qD ρ q.2.2) (hg : ∀ a, a < cG c → ρ a = ρc a) (hI : sI M) (hF : sF (cS c) M0 M) : qPost c ρc M0 (qRv (cR c) (qD ρ f)) M := by
  unfold qPo at h
  split at h
  next j hs1 =>
   split at h
   next al hal =>
    cases h1 : ((cT c).all (fun q => Nat.blt q.2.1 1000 && (qFind mm q.1 q.2.1 == some (qTf (cG c) f ((cT c).map (fun q => (qFind mm q.1 q.2.1).getD [])) q.2.2)))) with
    | false => rw [h1] at h; cases h
    | true =>
      rw [h1, cond_true] at h
      generalize (cT c).map (fun q => (qFind mm q.1 q.2.1).getD []) = pl at *
      refine ⟨fun a => qD ρ (qSr (cG c) f pl a), ?_, ?_, ?_, ?_, hI, hF⟩
      · intro a ha
        show qD ρ (qSr (cG c) f pl a) = ρc a
        unfold qSr
        rw [show Nat.blt a (cG c) = true from Nat.ble_eq_true_of_le ha, cond_true, qd_at, hg a ha]
        omega
      · have : qSr (cG c) f pl (cG c) = f := by
          unfold qSr
          have hb : Nat.blt (cG c) (cG c) = false := by
            cases hb : Nat.blt (cG c) (cG c) with
            | false => rfl
            | true => exact absurd (zblt hb) (Nat.lt_irrefl _)
          rw [hb, cond_false, Nat.beq_refl, cond_true]
        show qRv (cR c) (qD ρ f) = qRv (cR c) (qD ρ (qSr (cG c) f pl (cG c)))
        rw [this]
      · refine ⟨al, List.mem_of_getElem? hal, ?_⟩
        intro f' hf'
        have := qents_ok h0 hf h _ (List.mem_map_of_mem hf')
        rw [qd_sb] at this
        exact this
      · intro q hq
        have h2 := List.all_eq_true.mp h1 q hq
        rw [Bool.and_eq_true] at h2
        have h3 := qfind_ok hm (eq_of_beq h2.2)
        rw [zix_b h2.1] at h3
        rw [h3]
        unfold qTf qTv
        cases Nat.blt q.2.2 100000 with
        | true => rfl
        | false => exact qd_cn h0 _
   next => cases h
  next => cases h
section ONE
variable {d K : Nat} {J : pHp} {M0 : sM} {S : sSt} {g : Nat} {ρ0 ρc : Nat → Int} {c : qCt}
theorem qret_ok {i : Instr} {pc len a : Nat} {lv : qLv} {st : List qV} {fs : List qF} {mm : qMm} {hs hs' : qHs} (he : (pc, i, len, a) ∈ pTs.getD K []) (ha : a < 99999) (hcg : ∀ a, a < cG c → ρ0 a = ρc a) (hle : cG c ≤ g) (h : qRet c (pMt K).2.2.2.2.1 i len st fs mm hs = some hs') : qG d K J (qPost c ρc M0) M0 (cS c) g ρ0 pc lv st fs mm := by
  intro ρ M hg h0 hf hm hI hF
  have hgc : ∀ a, a < cG c → ρ a = ρc a := fun a ha => (hg a (by omega)).trans (hcg a ha)
  unfold qRet at h
  split at h
  · split at h
    · rename_i f
      cases h1 : (Nat.beq (cR c) 0 && Nat.beq len 1) with
      | false => rw [h1] at h; cases h
      | true =>
        rw [h1, cond_true] at h
        rw [Bool.and_eq_true] at h1
        have e1 := Nat.eq_of_beq_eq_true h1.1
        have e2 := Nat.eq_of_beq_eq_true h1.2
        subst e2
        split at h
        · rename_i hr
          have hp := qpo_ok h h0 hf hm hgc hI hF
          rw [e1] at hp
          exact sr_iret he ha hr rfl hp
        · rename_i hr
          split at h
          · rename_i u v hs2
            cases h3 : (qEnt fs f u && qEnt fs (qSub (qCn 1) f) v) with
            | false => rw [h3] at h; cases h
            | true =>
              rw [h3, cond_true] at h
              rw [Bool.and_eq_true] at h3
              have h4 := qd_ent h0 hf h3.1
              have h5 := qd_ent h0 hf h3.2
              rw [qd_sub, qd_cn h0] at h5
              have hp := qpo_ok h h0 hf hm hgc hI hF
              rw [e1] at hp
              refine sr_iret he ha hr ?_ hp
              show Value.int (Int32.ofInt (qD ρ f) &&& 1) = Value.int (Int32.ofInt (qD ρ f))
              rw [zn_and1 ⟨h4, by omega⟩]
          · cases h
        · rename_i ty _ _ hr
          split at h
          · rename_i k hk
            cases h3 : decide (narrow ty (.int (Int32.ofInt k)) = .int (Int32.ofInt k)) with
            | false => rw [h3] at h; cases h
            | true =>
              rw [h3, cond_true] at h
              have hp := qpo_ok h h0 hf hm hgc hI hF
              rw [e1] at hp
              refine sr_iret he ha hr ?_ hp
              rw [qd_ko h0 hk]
              exact of_decide_eq_true h3
          · cases h
        · cases h
    · cases h
  · split at h
    · rename_i f
      cases h1 : (Nat.beq (cR c) 1 && Nat.beq len 1) with
      | false => rw [h1] at h; cases h
      | true =>
        rw [h1, cond_true] at h
        rw [Bool.and_eq_true] at h1
        have e1 := Nat.eq_of_beq_eq_true h1.1
        have e2 := Nat.eq_of_beq_eq_true h1.2
        subst e2
        split at h
        · rename_i hr
          have hp := qpo_ok h h0 hf hm hgc hI hF
          rw [e1] at hp
          refine ⟨1, some (1, qD ρ f), M, ⟨_, he, rfl, ha, Or.inl ⟨?_, rfl⟩⟩, hp⟩
          unfold pRet
          rw [hr]
          rfl
        · cases h
    · cases h
  · split at h
    · cases h1 : (Nat.beq (cR c) 9 && Nat.beq len 1) with
      | false => rw [h1] at h; cases h
      | true =>
        rw [h1, cond_true] at h
        rw [Bool.and_eq_true] at h1
        have e1 := Nat.eq_of_beq_eq_true h1.1
        have e2 := Nat.eq_of_beq_eq_true h1.2
        subst e2
        split at h
        · rename_i hr
          have hp := qpo_ok h h0 hf hm hgc hI hF
          rw [e1] at hp
          exact sr_vret he ha hr hp
        · cases h
    · cases h
  · cases h
/-! one instruction: the states behind it -/
abbrev qS : Type := Nat × qLv × List qV × List qF × qMm × Nat
def qMd (S : sSt) (i : Instr) (a : Nat) (st : List qV) (fs : List qF) (mm : qMm) (n : Nat) (hs : qHs) : Option qMr := match i with
  | .getfield _ => qGf a st fs mm n hs
  | .putfield _ => qPf S a st fs mm n hs
  | .iaload => qAl .iaload st fs mm n hs
  | .baload => qAl .baload st fs mm n hs
  | .laload => qAl .laload st fs mm n hs
  | .aaload => qAa st fs mm n hs
  | .iastore => qAs .iastore S st fs mm n hs
  | .bastore => qAs .bastore S st fs mm n hs
  | .lastore => qAs .lastore S st fs mm n hs
  | .ldc x => qMi (.ldc x) a st mm n hs
  | .ldc_w x => qMi (.ldc_w x) a st mm n hs
  | .ldc2_w x => qMi (.ldc2_w x) a st mm n hs
  | .arraylength => qMi .arraylength a st mm n hs
  | .invokestatic _ => qAc S a st mm n hs
  | _ => none
theorem qmd_ok {S : sSt} {J : pHp} {M0 : sM} {c : Nat} {ini : Bool} {i : Instr} {a n : Nat} {st : List qV} {fs : List qF} {mm : qMm} {hs : qHs} {q : qMr} (h : qMd S i a st fs mm n hs = some q) : qMok c ini i a J M0 S st fs mm n q := by
  unfold qMd at h
  split at h
  · exact qgf_ok h
  · exact qpf_ok h
  · exact qal_ok h
  · exact qal_ok h
  · exact qal_ok h
  · exact qaa_ok h
  · exact qas_ok h
  · exact qas_ok h
  · exact qas_ok h
  · exact qmi_ok h
  · exact qmi_ok h
  · exact qmi_ok h
  · exact qmi_ok h
  · exact qac_ok h
  · cases h
theorem qg_mem (hg1 : 0 < g) {Q : Option sV → sM → Prop} {i : Instr} {pc len a n : Nat} {lv : qLv} {st : List qV} {fs : List qF} {mm : qMm} {q : qMr} (he : (pc, i, len, a) ∈ pTs.getD K []) (ha : a < 99999) (hsc : qScA g n lv st fs mm = true) (hlen : q.1 = len) (hq : qMok (pMt K).1 ((pMt K).2.1.name == "<init>") i a J M0 S st fs mm n q) (k : qG d K J Q M0 S g ρ0 (pc + len) lv q.2.1 (fs ++ q.2.2.1) q.2.2.2.1) : qG d K J Q M0 S g ρ0 pc lv st fs mm := by
  intro ρ M hg h0 hf hm hI hF
  obtain ⟨s1, s2, s3, s4, s5⟩ := qsa hsc
  obtain ⟨ρ1, M', h1, h2, h3, h4, h5⟩ := hq ρ M (by omega) h0 s3 s5 hf hm hI hF
  obtain ⟨e1, e2, e3, e4, e5, e6⟩ := qg_new (ρ1 := ρ1) hg1 hsc hg h0 hf hm
  have h6 := k _ M' e1 e2 (fun f hf' => by
    rcases List.mem_append.mp hf' with h | h
    · exact e3 f h
    · exact h2 f h) h3 h4 h5
  rw [e5] at h6
  subst hlen
  exact sr_stp he ha rfl (Or.inr (Or.inr (Or.inr (Or.inr ⟨_, _, h1, rfl⟩)))) h6
/-- what lies outside the heap: the text of the language and its bytes -/
def qXt (i : Instr) (a : Nat) (st : List qV) : Option (Nat × List qV) := match i with
  | .ldc _ => cond (Nat.beq a 900) (some (2, (3, []) :: st)) none
  | .getstatic _ => cond (Nat.beq a 9100) (some (3, (0, qCn 1) :: st)) (cond (Nat.beq a 9101) (some (3, (3, qCn 2) :: st)) none)
  | .getfield _ => match st with
    | (3, x) :: r => (match qKo x with
      | some 0 => cond (Nat.beq a 9000) (some (3, (3, qCn 1) :: r)) (cond (Nat.beq a 9001) (some (3, (0, []) :: r)) none)
      | _ => none)
    | _ => none
  | .arraylength => match st with
    | (3, x) :: r => (match qKo x with | some 1 => some (1, (0, qCn (pLang.length : Int)) :: r) | _ => none)
    | _ => none
  | .baload => match st with
    | (0, x) :: (3, y) :: r => (match qKo x, qKo y with
      | some c, some 1 => cond (zNg c) none (match pLang[c.toNat]? with
        | some (.int v) => cond (Nat.blt c.toNat 4096) (some (1, (0, qCn v.toInt) :: r)) none
        | _ => none)
      | _, _ => none)
    | _ => none
  | _ => none
theorem pl_len : pLang.length ≤ 4096 := by decide +kernel
set_option maxRecDepth 100000 in
theorem qxt_ok {i : Instr} {a len : Nat} {st st' : List qV} (h : qXt i a st = some (len, st')) (ρ : Nat → Int) (h0 : ρ 0 = 1) : pXtr i a ((qDS ρ st).map sE) = some (len, (qDS ρ st').map sE) := by
  unfold qXt at h
  split at h
  · obtain ⟨h1, h2⟩ := zcond h
    cases h2
    have e := Nat.eq_of_beq_eq_true h1
    subst e
    rfl
  · cases h1 : Nat.beq a 9100 with
    | true =>
      rw [h1] at h
      cases h
      have e := Nat.eq_of_beq_eq_true h1
      subst e
      show some (3, Value.int 1 :: _) = some (3, Value.int (Int32.ofInt (qD ρ (qCn 1))) :: _)
      rw [qd_cn h0]; rfl
    | false =>
      rw [h1, cond_false] at h
      obtain ⟨h1, h2⟩ := zcond h
      cases h2
      have e := Nat.eq_of_beq_eq_true h1
      subst e
      show some (3, Value.float 2 :: _) = some (3, Value.float (UInt32.ofNat (qD ρ (qCn 2)).toNat) :: _)
      rw [qd_cn h0]; rfl
  · split at h
    · rename_i x r
      split at h
      · rename_i hx
        have ex := qd_ko h0 hx
        have hS : (qDS ρ ((3, x) :: r)).map sE = Value.float 0 :: (qDS ρ r).map sE := by
          show Value.float (UInt32.ofNat (qD ρ x).toNat) :: _ = _
          rw [ex]; rfl
        rw [hS]
        cases h1 : Nat.beq a 9000 with
        | true =>
          rw [h1] at h
          cases h
          have e := Nat.eq_of_beq_eq_true h1
          subst e
          show some (3, Value.float 1 :: _) = some (3, Value.float (UInt32.ofNat (qD ρ (qCn 1)).toNat) :: _)
          rw [qd_cn h0]; rfl
        | false =>
          rw [h1, cond_false] at h
          obtain ⟨h1, h2⟩ := zcond h
          cases h2
          have e := Nat.eq_of_beq_eq_true h1
          subst e
          rfl
      · cases h
    · cases h
  · split at h
    · rename_i x r
      split at h
      · rename_i hx
        cases h
        have ex := qd_ko h0 hx
        have hS : (qDS ρ ((3, x) :: r)).map sE = Value.float 1 :: (qDS ρ r).map sE := by
          show Value.float (UInt32.ofNat (qD ρ x).toNat) :: _ = _
          rw [ex]; rfl
        rw [hS]
        show some (1, Value.int (Int32.ofNat pLang.length) :: _) = some (1, Value.int (Int32.ofInt (qD ρ (qCn (pLang.length : Int)))) :: _)
        rw [qd_cn h0]; rfl
      · cases h
    · cases h
  · split at h
    · rename_i x y r
      split at h
      · rename_i c hx hy
        have ex := qd_ko h0 hx
        have ey := qd_ko h0 hy
        cases hn : zNg c with
        | true => rw [hn] at h; cases h
        | false =>
          rw [hn, cond_false] at h
          have hc := zng_f hn
          split at h
          · rename_i v hv
            obtain ⟨h1, h2⟩ := zcond h
            cases h2
            have hlt : c.toNat < pLang.length := (List.getElem?_eq_some_iff.mp hv).1
            have hS : (qDS ρ ((0, x) :: (3, y) :: r)).map sE = Value.int (Int32.ofInt c) :: Value.float 1 :: (qDS ρ r).map sE := by
              show Value.int (Int32.ofInt (qD ρ x)) :: Value.float (UInt32.ofNat (qD ρ y).toNat) :: _ = _
              rw [ex, ey]; rfl
            rw [hS]
            show (if (1 : UInt32) = 1 then (pLd pLang (Int32.ofInt c)).map (fun v => (1, v :: (qDS ρ r).map sE)) else none) = some (1, Value.int (Int32.ofInt (qD ρ (qCn v.toInt))) :: _)
            have hp : pLd pLang (Int32.ofInt c) = some (.int v) := by
              unfold pLd
              rw [six_of hc (by omega) pl_len]
              exact hv
            rw [if_pos rfl, hp, qd_cn h0, i32_of]
            rfl
          · cases h
      · cases h
    · cases h
  · cases h
def zInv (i : Instr) : Bool := match i with
  | .invokestatic _ => true
  | .invokevirtual _ => true
  | _ => false
def zRet (i : Instr) : Bool := match i with
  | .ireturn => true
  | .lreturn => true
  | .return_ => true
  | _ => false
def zNeg (i : Instr) : Bool := match i with
  | .ineg => true
  | _ => false
abbrev qRe : Type := Option (List qS × qHs)
def qO1 (g : Nat) (i : Instr) (len : Nat) (s : qS) (hs : qHs) : qRe := match qHv i s.2.2.1 s.2.2.2.1 s.2.2.2.2.2 hs with
  | some r => cond (Nat.beq r.2.1 len && (qScA g s.2.2.2.2.2 s.2.1 r.2.2.1 s.2.2.2.1 s.2.2.2.2.1 && s.2.2.1.all (fun v => qSc s.2.2.2.2.2 v.2))) (some ([(s.1 + len, s.2.1, (r.1, [(1, s.2.2.2.2.2)]) :: r.2.2.1, s.2.2.2.1 ++ r.2.2.2.1, s.2.2.2.2.1, s.2.2.2.2.2 + 1)], r.2.2.2.2)) none
  | none => none
def qO2 (g : Nat) (i : Instr) (len : Nat) (s : qS) (hs : qHs) : qRe := match qEx i s.2.2.1 with
  | some r => cond (Nat.beq r.1 len) (some ([(s.1 + len, s.2.1, r.2, s.2.2.2)], hs)) none
  | none => qO1 g i len s hs
def qOne (cs : List qCt) (c : qCt) (K : Nat) (g : Nat) (e : pEn) (s : qS) (hs : qHs) : qRe := match qLoc (pMt K).2.2.2.1 e.2.1 s.2.1 s.2.2.1 with
  | some r => cond (Nat.beq r.1 e.2.2.1) (some ([(s.1 + e.2.2.1, r.2.1, r.2.2, s.2.2.2)], hs)) none
  | none => match qMd (cS c) e.2.1 e.2.2.2 s.2.2.1 s.2.2.2.1 s.2.2.2.2.1 s.2.2.2.2.2 hs with
    | some r => cond (Nat.beq r.1 e.2.2.1 && qScA g s.2.2.2.2.2 s.2.1 s.2.2.1 s.2.2.2.1 s.2.2.2.2.1) (some ([(s.1 + e.2.2.1, s.2.1, r.2.1, s.2.2.2.1 ++ r.2.2.1, r.2.2.2.1, r.2.2.2.2.1)], r.2.2.2.2.2)) none
    | none => match qXt e.2.1 e.2.2.2 s.2.2.1 with
     | some r => cond (Nat.beq r.1 e.2.2.1) (some ([(s.1 + e.2.2.1, s.2.1, r.2, s.2.2.2)], hs)) none
     | none => match qJp e.2.1 s.1 e.2.2.1 s.2.2.1 s.2.2.2.1 hs with
      | some r => some (r.1.map (fun q => (q.1, s.2.1, q.2.1, s.2.2.2.1 ++ q.2.2, s.2.2.2.2)), r.2)
      | none => cond (zInv e.2.1) (match hs with
          | t :: hs1 => (match qTch g s.2.1 t s.2.2.1 s.2.2.2.1 s.2.2.2.2.1 s.2.2.2.2.2 with
            | some q => (match qArg e.2.1 e.2.2.2 q.1 q.2.1 hs1 with
              | some r => (match qCall cs c (cS c) g (e.2.2.2 % 1000) r.1 r.2.1 s.2.1 q.2.1 q.2.2.1 q.2.2.2 r.2.2 with
                | some z => cond (Nat.beq e.2.2.1 3) (some (z.2.1.map (fun fs' => (s.1 + 3, s.2.1, z.1, fs', z.2.2.1, z.2.2.2.1)), z.2.2.2.2)) none
                | none => none)
              | none => none)
            | none => none)
          | [] => none)
        (cond (zRet e.2.1) (match hs with
            | t :: hs1 => (match qTch g s.2.1 t s.2.2.1 s.2.2.2.1 s.2.2.2.2.1 s.2.2.2.2.2 with
              | some q => (match qRet c (pMt K).2.2.2.2.1 e.2.1 e.2.2.1 q.1 q.2.1 q.2.2.1 hs1 with
                | some hs' => some ([], hs')
                | none => none)
              | none => none)
            | [] => none)
          (cond (zNeg e.2.1) (match hs with
              | [] :: hs1 => qO2 g e.2.1 e.2.2.1 s hs1
              | _ :: hs1 => qO1 g e.2.1 e.2.2.1 s hs1
              | [] => none)
            (qO2 g e.2.1 e.2.2.1 s hs)))
abbrev qGS (d K : Nat) (J : pHp) (Q : Option sV → sM → Prop) (M0 : sM) (S : sSt) (g : Nat) (ρ0 : Nat → Int) (s : qS) : Prop := qG d K J Q M0 S g ρ0 s.1 s.2.1 s.2.2.1 s.2.2.2.1 s.2.2.2.2.1
theorem qo1_ok (hg1 : 0 < g) {Q : Option sV → sM → Prop} {i : Instr} {pc len a : Nat} {s : qS} {hs hs' : qHs} {su : List qS} (hpc : s.1 = pc) (he : (pc, i, len, a) ∈ pTs.getD K []) (ha : a < 99999) (h : qO1 g i len s hs = some (su, hs')) (k : ∀ t ∈ su, qGS d K J Q M0 S g ρ0 t) : qGS d K J Q M0 S g ρ0 s := by
  subst hpc
  unfold qO1 at h
  split at h
  · rename_i r hr
    obtain ⟨h1, h2⟩ := zcond h
    cases h2
    rw [Bool.and_eq_true, Bool.and_eq_true] at h1
    have e1 := Nat.eq_of_beq_eq_true h1.1
    subst e1
    have k1 := k _ List.mem_cons_self
    have hn : 0 < s.2.2.2.2.2 := by have := (qsa h1.2.1).1; omega
    exact qg_hv hg1 r.1 he ha h1.2.1 (fun ρ h0 hf => qhv_ok hr hn h1.2.2 ρ h0 hf) k1
  · cases h
theorem qo2_ok (hg1 : 0 < g) {Q : Option sV → sM → Prop} {i : Instr} {pc len a : Nat} {s : qS} {hs hs' : qHs} {su : List qS} (hpc : s.1 = pc) (he : (pc, i, len, a) ∈ pTs.getD K []) (ha : a < 99999) (h : qO2 g i len s hs = some (su, hs')) (k : ∀ t ∈ su, qGS d K J Q M0 S g ρ0 t) : qGS d K J Q M0 S g ρ0 s := by
  unfold qO2 at h
  split at h
  · rename_i r hr
    subst hpc
    obtain ⟨h1, h2⟩ := zcond h
    cases h2
    have e1 := Nat.eq_of_beq_eq_true h1
    subst e1
    exact qg_st he ha (fun ρ h0 => qex_ok hr ρ h0) (k _ List.mem_cons_self)
  · exact qo1_ok hg1 hpc he ha h k
theorem qone_ok (hDd : ∀ ρ : Nat → Int, (∀ a, a < g → ρ a = ρ0 a) → (cD c : Int) + qD ρ (cE c) ≤ (d + 1 : Nat)) (hg1 : 0 < g) {cs : List qCt} (hcs : ∀ c ∈ cs, qCokN c d) (hcg : ∀ a, a < cG c → ρ0 a = ρc a) (hle : cG c ≤ g) {e : pEn} {s : qS} {hs hs' : qHs} {su : List qS} (hpc : e.1 = s.1) (he : e ∈ pTs.getD K []) (ha : e.2.2.2 < 99999) (h : qOne cs c K g e s hs = some (su, hs')) (k : ∀ t ∈ su, qGS d K J (qPost c ρc M0) M0 (cS c) g ρ0 t) : qGS d K J (qPost c ρc M0) M0 (cS c) g ρ0 s := by
  obtain ⟨pc, i, len, a⟩ := e
  have hpc : pc = s.1 := hpc
  subst hpc
  unfold qOne at h
  split at h
  · rename_i r hr
    obtain ⟨h1, h2⟩ := zcond h
    cases h2
    have e1 := Nat.eq_of_beq_eq_true h1
    have k1 := k _ List.mem_cons_self
    intro ρ M hg h0 hf hm hI hF
    refine sr_stp he ha rfl (Or.inr (Or.inl ⟨_, _, ?_, rfl⟩)) (k1 ρ M hg h0 hf hm hI hF)
    have := qloc_ok hr ρ h0
    rw [e1] at this
    exact this
  · split at h
    · rename_i r hr
      obtain ⟨h1, h2⟩ := zcond h
      cases h2
      rw [Bool.and_eq_true] at h1
      have e1 := Nat.eq_of_beq_eq_true h1.1
      exact qg_mem hg1 he ha h1.2 e1 (qmd_ok hr) (k _ List.mem_cons_self)
    · split at h
      next r hr =>
        obtain ⟨h1, h2⟩ := zcond h
        cases h2
        have e1 := Nat.eq_of_beq_eq_true h1
        have k1 := k _ List.mem_cons_self
        intro ρ M hg h0 hf hm hI hF
        refine sr_stp he ha rfl (Or.inr (Or.inr (Or.inr (Or.inl ⟨_, ?_, rfl⟩)))) (k1 ρ M hg h0 hf hm hI hF)
        have := qxt_ok hr ρ h0
        rw [e1] at this
        exact this
      split at h
      · rename_i r hr
        cases h
        intro ρ M hg h0 hf hm hI hF
        obtain ⟨z, hz, h1, h2⟩ := qjp_ok (a := a) hr h0 hf (pMt K) (sL (qDL ρ s.2.1)) (sHp sLay M ++ J)
        have k1 := k _ (List.mem_map_of_mem hz)
        exact sr_stp he ha rfl h1 (k1 ρ M hg h0 (fun f hf' => by
          rcases List.mem_append.mp hf' with h | h
          · exact hf f h
          · exact h2 f h) hm hI hF)
      · cases hi : zInv i with
        | true =>
          have h := h
          dsimp only at h
          rw [hi, cond_true] at h
          split at h
          · split at h
            · rename_i q hq
              split at h
              · rename_i r hr
                split at h
                · rename_i z hz
                  obtain ⟨h1, h2⟩ := zcond h
                  cases h2
                  have e1 : len = 3 := Nat.eq_of_beq_eq_true h1
                  subst e1
                  exact qg_tch hg1 hq (qcall_ok hDd hg1 hcs he ha hr hz (fun fs' hfs => k _ (List.mem_map_of_mem hfs)))
                · cases h
              · cases h
            · cases h
          · cases h
        | false =>
          dsimp only at h
          rw [hi, cond_false] at h
          cases hi2 : zRet i with
          | true =>
            rw [hi2, cond_true] at h
            split at h
            · split at h
              · rename_i q hq
                split at h
                · rename_i hs2 hr
                  exact qg_tch hg1 hq (qret_ok he ha hcg hle hr)
                · cases h
              · cases h
            · cases h
          | false =>
            rw [hi2, cond_false] at h
            cases hi3 : zNeg i with
            | true =>
              rw [hi3, cond_true] at h
              split at h
              · exact qo2_ok hg1 rfl he ha h k
              · exact qo1_ok hg1 rfl he ha h k
              · cases h
            | false =>
              rw [hi3, cond_false] at h
              exact qo2_ok hg1 rfl he ha h k
end ONE
end
section
/-! RULES OF WHAT ALWAYS HOLDS. A rule: how many names it has (0 is 1), facts, what lies in memory (places from 1000 on: at the number that a name has), at most one place that is written (cell, place, value), places outside the heap that are written then, what is known then (further names are new). -/
abbrev qRu : Type := Nat × List qF × qMm × List (Nat × qF × qF) × qMm × List qF
def mW (ρ : Nat → Int) (l : List (Nat × qF × qF)) (M : sM) : sM := match l with
  | [] => M
  | q :: _ => sU M q.1 (qD ρ q.2.1).toNat (qD ρ q.2.2)
def gU (ρ : Nat → Int) : qMm → sM → sM
  | [], M => M
  | q :: l, M => gU ρ l (sU M q.1 q.2.1 (qD ρ q.2.2))
def qRok (r : qRu) : Prop := ∀ (ρ : Nat → Int) (M : sM), ρ 0 = 1 → (∀ f ∈ r.2.1, 0 ≤ qD ρ f) → (∀ q ∈ r.2.2.1, M q.1 (zIx ρ q.2.1) = qD ρ q.2.2) → sI M → ∃ ρ' : Nat → Int, (∀ a, a < r.1 → ρ' a = ρ a) ∧ (∀ f ∈ r.2.2.2.2.2, 0 ≤ qD ρ' f) ∧ sI (gU ρ' r.2.2.2.2.1 (mW ρ r.2.2.2.1 M))
/-- a place outside the heap -/
def zGh (o k : Nat) : Bool := Nat.blt k 1000 && (match sLay[o]? with | some c => Nat.ble c.2.length k | none => false)
theorem zgh_hp {lay : List sCl} {M : sM} {o k : Nat} {v : Int} {c : sCl} (hl : lay[o]? = some c) (hk : c.2.length ≤ k) : sHp lay (sU M o k v) = sHp lay M := by
  unfold sHp
  refine List.ext_getElem? fun j => ?_
  rw [List.getElem?_mapIdx, List.getElem?_mapIdx]
  cases hj : lay[j]? with
  | none => rfl
  | some c' =>
    show some (sCell (sU M o k v) j c') = some (sCell M j c')
    by_cases hjo : j = o
    · subst hjo
      rw [hl] at hj
      cases hj
      congr 1
      unfold sCell
      refine Prod.ext rfl (List.ext_getElem? fun i => ?_)
      rw [List.getElem?_mapIdx, List.getElem?_mapIdx]
      cases hi : c.2[i]? with
      | none => rfl
      | some q =>
        have hlt := (List.getElem?_eq_some_iff.mp hi).1
        show some (sE (sC q (sU M j k v j i))) = some (sE (sC q (M j i)))
        rw [sU_ne (fun z => by omega)]
    · rw [scell_ne hjo]
theorem zgh_ok {M : sM} {o k : Nat} {v : Int} (h : zGh o k = true) : sHp sLay (sU M o k v) = sHp sLay M := by
  unfold zGh at h
  rw [Bool.and_eq_true] at h
  have h2 := h.2
  split at h2
  · rename_i c hl
    exact zgh_hp hl (Nat.le_of_ble_eq_true h2)
  · cases h2
def qGm (sn : Nat → qF) : qMm → qMm → qMm
  | [], mm => mm
  | q :: l, mm => qGm sn l ((q.1, q.2.1, qSb sn q.2.2) :: qRm mm q.1 q.2.1)
theorem qgm_ok {ρ : Nat → Int} {S : sSt} {M0 : sM} {sn : Nat → qF} : ∀ {gw mm : qMm} {M : sM}, gw.all (fun q => zGh q.1 q.2.1 && sIn S q.1 q.2.1) = true → (∀ q ∈ mm, M q.1 (zIx ρ q.2.1) = qD ρ q.2.2) → sF S M0 M → (∀ q ∈ qGm sn gw mm, gU (fun a => qD ρ (sn a)) gw M q.1 (zIx ρ q.2.1) = qD ρ q.2.2) ∧ sF S M0 (gU (fun a => qD ρ (sn a)) gw M) ∧ sHp sLay (gU (fun a => qD ρ (sn a)) gw M) = sHp sLay M
  | [], mm, M, _, hm, hF => ⟨hm, hF, rfl⟩
  | q :: l, mm, M, h, hm, hF => by
    rw [List.all_cons, Bool.and_eq_true, Bool.and_eq_true] at h
    have hk : Nat.blt q.2.1 1000 = true := by
      have := h.1.1
      unfold zGh at this
      rw [Bool.and_eq_true] at this
      exact this.1
    have ih := qgm_ok (ρ := ρ) (S := S) (M0 := M0) (sn := sn) (gw := l) (mm := (q.1, q.2.1, qSb sn q.2.2) :: qRm mm q.1 q.2.1) (M := sU M q.1 q.2.1 (qD (fun a => qD ρ (sn a)) q.2.2)) h.2 (fun p hp => by
      rcases List.mem_cons.mp hp with rfl | hp
      · show sU M q.1 q.2.1 _ q.1 (zIx ρ q.2.1) = qD ρ (qSb sn q.2.2)
        rw [zix_b hk, sU_at, qd_sb]
      · exact qrm_ok hm p hp) (sf_u hF h.1.2)
    refine ⟨ih.1, ih.2.1, ih.2.2.trans (zgh_ok h.1.1)⟩
/-- places of a rule in a state -/
def zKey (σ : List qF) (k : Nat) : Nat := cond (Nat.blt k 1000) k (match qSg σ (k - 1000) with | [(1, e)] => 1000 + e | _ => 999999999)
def qRa (r : qRu) (g : Nat) (S : sSt) (lv : qLv) (st : List qV) (fs : List qF) (mm mm1 : qMm) (n : Nat) (hs : qHs) : Option qFmH :=
  match qEnts fs (r.2.1.map (qSb (qSg ([(1, 0)] :: hs.take (r.1 - 1))))) (hs.drop (r.1 - 1)) with
  | some hs2 => cond (Nat.blt 0 r.1 && (r.2.2.1.all (fun q => Nat.blt (zKey ([(1, 0)] :: hs.take (r.1 - 1)) q.2.1) 999999999 && qFind mm q.1 (zKey ([(1, 0)] :: hs.take (r.1 - 1)) q.2.1) == some (qSb (qSg ([(1, 0)] :: hs.take (r.1 - 1))) q.2.2)) && (r.2.2.2.2.1.all (fun q => zGh q.1 q.2.1 && sIn S q.1 q.2.1) && (qScA g n lv st fs mm1 && ((hs.take (r.1 - 1)).all (qSc n) && mm.all (fun q => qSk n q.2.1 && qSc n q.2.2)))))) (some (fs ++ r.2.2.2.2.2.map (qSb (qSn ([(1, 0)] :: hs.take (r.1 - 1)) r.1 n)), qGm (qSn ([(1, 0)] :: hs.take (r.1 - 1)) r.1 n) r.2.2.2.2.1 mm1, n + 8, hs2)) none
  | none => none
section RA
variable {d K : Nat} {J : pHp} {Q : Option sV → sM → Prop} {M0 : sM} {S : sSt} {g : Nat} {ρ0 : Nat → Int}
/-- mm: what is known ahead of the write, mm1: behind it; M1: the memory behind it -/
theorem qra_ok (hg1 : 0 < g) {r : qRu} (hr : qRok r) {lv : qLv} {st : List qV} {fs : List qF} {mm mm1 : qMm} {n : Nat} {hs : qHs} {q : qFmH} (h : qRa r g S lv st fs mm mm1 n hs = some q) {ρ : Nat → Int} {M M1 : sM} (hg : ∀ a, a < g → ρ a = ρ0 a) (h0 : ρ 0 = 1) (hf : ∀ f ∈ fs, 0 ≤ qD ρ f) (hm : ∀ q ∈ mm, M q.1 (zIx ρ q.2.1) = qD ρ q.2.2) (hm1 : ∀ q ∈ mm1, M1 q.1 (zIx ρ q.2.1) = qD ρ q.2.2) (hI : sI M) (hF : sF S M0 M1) (hM1 : mW (fun a => qD ρ (qSg ([(1, 0)] :: hs.take (r.1 - 1)) a)) r.2.2.2.1 M = M1) :
    ∃ (ρ2 : Nat → Int) (M2 : sM), (∀ a, a < g → ρ2 a = ρ0 a) ∧ ρ2 0 = 1 ∧ (∀ f ∈ q.1, 0 ≤ qD ρ2 f) ∧ (∀ p ∈ q.2.1, M2 p.1 (zIx ρ2 p.2.1) = qD ρ2 p.2.2) ∧ sI M2 ∧ sF S M0 M2 ∧ sHp sLay M2 = sHp sLay M1 ∧ qDL ρ2 lv = qDL ρ lv ∧ qDS ρ2 st = qDS ρ st := by
  unfold qRa at h
  split at h
  · rename_i hs2 hen
    obtain ⟨h1, h2⟩ := zcond h
    cases h2
    rw [Bool.and_eq_true, Bool.and_eq_true, Bool.and_eq_true, Bool.and_eq_true, Bool.and_eq_true] at h1
    obtain ⟨g1, g2, g3, g4, g5, g6⟩ := h1
    generalize hσ : ([(1, 0)] :: hs.take (r.1 - 1) : List qF) = σ at *
    have hn0 : 0 < n := by have := (qsa g4).1; omega
    have hσsc : ∀ b, qSc n (qSg σ b) = true := by
      intro b
      unfold qSg
      cases hb : σ[b]? with
      | none => rfl
      | some f =>
        have hmem := List.mem_of_getElem? hb
        rw [← hσ] at hmem
        rcases List.mem_cons.mp hmem with rfl | hmem
        · show (Nat.blt 0 n && true) = true
          rw [show Nat.blt 0 n = true from Nat.ble_eq_true_of_le hn0]; rfl
        · exact List.all_eq_true.mp g5 f hmem
    have hρ0 : qD ρ (qSg σ 0) = 1 := by
      rw [← hσ]
      show qD ρ [(1, 0)] = 1
      rw [qd_at, h0]; rfl
    have hel : ∀ p ∈ r.2.2.1, M p.1 (zIx (fun a => qD ρ (qSg σ a)) p.2.1) = qD (fun a => qD ρ (qSg σ a)) p.2.2 := by
      intro p hp
      have h3 := List.all_eq_true.mp g2 p hp
      rw [Bool.and_eq_true] at h3
      have h4 := qfind_ok hm (eq_of_beq h3.2)
      rw [qd_sb] at h4
      rw [← h4]
      congr 1
      have hlt := zblt h3.1
      unfold zKey at hlt ⊢
      cases hk : Nat.blt p.2.1 1000 with
      | true => rw [hk] at hlt; rw [cond_true, zix_b hk, zix_b hk]
      | false =>
        rw [hk, cond_false] at hlt
        rw [cond_false]
        have hz1 : zIx (fun a => qD ρ (qSg σ a)) p.2.1 = (qD ρ (qSg σ (p.2.1 - 1000))).toNat := by
          unfold zIx
          rw [hk]; rfl
        rw [hz1]
        split at hlt
        · rename_i e he
          have hb0 : Nat.blt (1000 + e) 1000 = false := by
            cases hb0 : Nat.blt (1000 + e) 1000 with
            | false => rfl
            | true => have := zblt hb0; omega
          have hz2 : zIx ρ (1000 + e) = (ρ e).toNat := by
            unfold zIx
            rw [hb0]
            show (ρ (1000 + e - 1000)).toNat = _
            rw [show 1000 + e - 1000 = e by omega]
          rw [he]
          rw [hz2, qd_at]
          congr 1
          omega
        · omega
    obtain ⟨ρ', e1, e2, e3⟩ := hr (fun a => qD ρ (qSg σ a)) M hρ0 (fun f hf' => by
      have := qents_ok h0 hf hen _ (List.mem_map_of_mem hf')
      rw [qd_sb] at this
      exact this) hel hI
    rw [hM1] at e3
    obtain ⟨a1, a2, a3, a4, a5, a6⟩ := qg_new (ρ1 := fun b => ρ' (r.1 + (b - n))) hg1 g4 hg h0 hf hm1
    generalize hρn : qUp ρ (fun b => ρ' (r.1 + (b - n))) n = ρn at *
    have hlt : ∀ b, b < n → ρn b = ρ b := fun b hb => by rw [← hρn]; exact qup_lt hb
    have hge : ∀ b, ρn (n + b) = ρ' (r.1 + b) := fun b => by
      rw [← hρn, qup_ge (by omega), show n + b - n = b by omega]
    have hsn : ∀ b, qD ρn (qSn σ r.1 n b) = ρ' b := by
      intro b
      unfold qSn
      cases hb : Nat.blt b r.1 with
      | true =>
        show qD ρn (qSg σ b) = ρ' b
        rw [qd_sc hlt (hσsc b), e1 b (zblt hb)]
      | false =>
        show qD ρn [(1, n + (b - r.1))] = ρ' b
        have hb2 : r.1 ≤ b := by
          rcases Nat.lt_or_ge b r.1 with h | h
          · have : Nat.blt b r.1 = true := Nat.ble_eq_true_of_le h
            rw [this] at hb; cases hb
          · exact h
        rw [qd_at, hge, show r.1 + (b - r.1) = b by omega]
        omega
    have hfun : (fun a => qD ρn (qSn σ r.1 n a)) = ρ' := funext hsn
    obtain ⟨c1, c2, c3⟩ := qgm_ok (sn := qSn σ r.1 n) g3 a4 hF
    rw [hfun] at c1 c2 c3
    refine ⟨ρn, gU ρ' r.2.2.2.2.1 M1, a1, a2, ?_, c1, e3, c2, c3, a5, a6⟩
    intro f hf'
    rcases List.mem_append.mp hf' with hf' | hf'
    · exact a3 f hf'
    · obtain ⟨f0, hf0, rfl⟩ := List.mem_map.mp hf'
      rw [qd_sb, hfun]
      exact e2 f0 hf0
  · cases h
theorem sr_hp {lay : List sCl} {pc : Nat} {lv : sLv} {st : List sV} {M M' : sM} (h : sHp lay M = sHp lay M') (k : sR lay d K J pc lv st M Q) : sR lay d K J pc lv st M' Q := by
  obtain ⟨n, rv, M2, h1, h2⟩ := k
  exact ⟨n, rv, M2, by rw [← h]; exact h1, h2⟩
/-- a rule without a write -/
theorem qg_rul (hg1 : 0 < g) {r : qRu} (hr : qRok r) (hw : r.2.2.2.1 = []) {pc : Nat} {lv : qLv} {st : List qV} {fs : List qF} {mm : qMm} {n : Nat} {hs : qHs} {q : qFmH} (h : qRa r g S lv st fs mm mm n hs = some q) (k : qG d K J Q M0 S g ρ0 pc lv st q.1 q.2.1) : qG d K J Q M0 S g ρ0 pc lv st fs mm := by
  intro ρ M hg h0 hf hm hI hF
  obtain ⟨ρ2, M2, e1, e2, e3, e4, e5, e6, e7, e8, e9⟩ := qra_ok (M1 := M) hg1 hr h hg h0 hf hm hm hI hF (by rw [hw]; rfl)
  have h3 := k ρ2 M2 e1 e2 e3 e4 e5 e6
  rw [e8, e9] at h3
  exact sr_hp e7 h3
/-- a write by a rule: length, stack, facts, memory, names, hints -/
def qWr (r : qRu) (g : Nat) (S : sSt) (i : Instr) (a : Nat) (lv : qLv) (st : List qV) (fs : List qF) (mm : qMm) (n : Nat) (hs : qHs) : Option (Nat × List qV × qFmH) := match i with
  | .putfield _ => match st with
    | (0, v) :: (2, x) :: rest => (match qRef x with
      | some o => (match sLay[o]? with
        | some c => (match c.2[a % 100]? with
          | some (0, _) => (match r.2.2.2.1 with
            | [w] => (match qRa r g S lv rest fs mm ((o, a % 100, v) :: qRm mm o (a % 100)) n hs with
              | some q => cond (Nat.beq c.1 (a / 100) && (Nat.blt c.1 13 && (sIn S o (a % 100) && (qFt c.1 (a % 100) 0 none && (Nat.beq w.1 o && ((qSb (qSg ([(1, 0)] :: hs.take (r.1 - 1))) w.2.1 == qCn ((a % 100 : Nat) : Int)) && (qSb (qSg ([(1, 0)] :: hs.take (r.1 - 1))) w.2.2 == v))))))) (some (3, rest, q)) none
              | none => none)
            | _ => none)
          | _ => none)
        | none => none)
      | none => none)
    | _ => none
  | .iastore => match st with
    | (0, v) :: (0, x) :: (2, y) :: rest => (match qRef y with
      | some o => (match qArr o with
        | some p => (match hs with
          | u :: t :: hs0 => (match r.2.2.2.1 with
            | [w] => (match qRa r g S lv rest fs mm (match x with
                | [(1, e)] => (o, 1000 + e, v) :: qRmF mm o 1
                | _ => qRmF mm o 1) n hs0 with
              | some q => cond (Nat.beq p.2.1 20 && (qEnt fs x u && (qEnt fs (qSub (qCn ((p.2.2 : Int) - 1)) x) t && (sInA S o && (Nat.beq w.1 o && ((qSb (qSg ([(1, 0)] :: hs0.take (r.1 - 1))) w.2.1 == x) && (qSb (qSg ([(1, 0)] :: hs0.take (r.1 - 1))) w.2.2 == v))))))) (some (1, rest, q)) none
              | none => none)
            | _ => none)
          | _ => none)
        | none => none)
      | none => none)
    | _ => none
  | _ => none
theorem qwr_ok (hg1 : 0 < g) {r : qRu} (hr : qRok r) {i : Instr} {pc len a : Nat} {lv : qLv} {st : List qV} {fs : List qF} {mm : qMm} {n : Nat} {hs : qHs} {q : Nat × List qV × qFmH} (he : (pc, i, len, a) ∈ pTs.getD K []) (ha : a < 99999) (h : qWr r g S i a lv st fs mm n hs = some q) (hlen : q.1 = len) (k : qG d K J Q M0 S g ρ0 (pc + len) lv q.2.1 q.2.2.1 q.2.2.2.1) : qG d K J Q M0 S g ρ0 pc lv st fs mm := by
  intro ρ M hg h0 hf hm hI hF
  unfold qWr at h
  split at h
  · rename_i ix0
    split at h
    · rename_i v x rest
      split at h
      · rename_i o ho
        have hx := qref_ok h0 ho
        split at h
        · rename_i c hl
          split at h
          · rename_i u hq
            split at h
            · rename_i w hw
              split at h
              · rename_i z hz
                obtain ⟨h1, h2⟩ := zcond h
                subst h2
                subst hlen
                rw [Bool.and_eq_true, Bool.and_eq_true, Bool.and_eq_true, Bool.and_eq_true, Bool.and_eq_true, Bool.and_eq_true] at h1
                obtain ⟨g1, g2, g3, g4, g5, g6, g7⟩ := h1
                have hM1 : mW (fun a => qD ρ (qSg ([(1, 0)] :: hs.take (r.1 - 1)) a)) r.2.2.2.1 M = sU M o (a % 100) (qD ρ v) := by
                  rw [hw]
                  show sU M w.1 (qD _ w.2.1).toNat (qD _ w.2.2) = _
                  rw [← qd_sb, ← qd_sb, eq_of_beq g6, eq_of_beq g7, qd_cn h0, Nat.eq_of_beq_eq_true g5]
                  rfl
                obtain ⟨ρ2, M2, e1, e2, e3, e4, e5, e6, e7, e8, e9⟩ := qra_ok (M1 := sU M o (a % 100) (qD ρ v)) hg1 hr hz hg h0 hf hm (fun p hp => by
                  rcases List.mem_cons.mp hp with rfl | hp
                  · show sU M o (a % 100) (qD ρ v) o (zIx ρ (a % 100)) = qD ρ v
                    rw [zix_lt (by omega)]
                    exact sU_at _ _ _ _
                  · exact qrm_ok hm p hp) hI (sf_u hF g3) hM1
                have h3 := k ρ2 M2 e1 e2 e3 e4 e5 e6
                rw [e8, e9] at h3
                have hp := zm_put (M := M) (J := J) (c := (pMt K).1) (ini := (pMt K).2.1.name == "<init>") (ix := ix0) (rest := (qDS ρ rest).map sE) (v := qD ρ v) hl ⟨Nat.eq_of_beq_eq_true g1, zblt g2⟩ hq (qft_ok g4 (fun _ h => nomatch h))
                refine sr_stp he ha rfl (Or.inr (Or.inr (Or.inr (Or.inr ⟨_, _, ?_, rfl⟩)))) (sr_hp e7 h3)
                refine Eq.trans ?_ hp
                show pMem false _ _ _ a (sE (0, qD ρ v) :: Value.ref (qD ρ x).toNat :: (qDS ρ rest).map sE) _ = _
                rw [hx]
                rfl
              · cases h
            · cases h
          · cases h
        · cases h
      · cases h
    · cases h
  · split at h
    · rename_i v x y rest
      split at h
      · rename_i o ho
        have hy := qref_ok h0 ho
        split at h
        · rename_i p hp
          obtain ⟨hl, hb⟩ := qarr_ok hp
          split at h
          · rename_i u t hs0
            split at h
            · rename_i w hw
              split at h
              · rename_i z hz
                obtain ⟨h1, h2⟩ := zcond h
                subst h2
                subst hlen
                rw [Bool.and_eq_true, Bool.and_eq_true, Bool.and_eq_true, Bool.and_eq_true, Bool.and_eq_true, Bool.and_eq_true] at h1
                obtain ⟨g1, g2, g3, g4, g5, g6, g7⟩ := h1
                have hx0 := qd_ent h0 hf g2
                have hx1 := qd_ent h0 hf g3
                rw [qd_sub, qd_cn h0] at hx1
                have et := Nat.eq_of_beq_eq_true g1
                rw [et] at hl
                have hM1 : mW (fun a => qD ρ (qSg ([(1, 0)] :: hs0.take (r.1 - 1)) a)) r.2.2.2.1 M = sU M o (qD ρ x).toNat (qD ρ v) := by
                  rw [hw]
                  show sU M w.1 (qD _ w.2.1).toNat (qD _ w.2.2) = _
                  rw [← qd_sb, ← qd_sb, eq_of_beq g6, eq_of_beq g7, Nat.eq_of_beq_eq_true g5]
                have hmF : ∀ p' ∈ qRmF mm o 1, sU M o (qD ρ x).toNat (qD ρ v) p'.1 (zIx ρ p'.2.1) = qD ρ p'.2.2 := qrmf_ok (Nat.le_refl o) (by omega) hm
                obtain ⟨ρ2, M2, e1, e2, e3, e4, e5, e6, e7, e8, e9⟩ := qra_ok (M1 := sU M o (qD ρ x).toNat (qD ρ v)) hg1 hr hz hg h0 hf hm (fun p' hp' => by
                  split at hp'
                  · rename_i e
                    rcases List.mem_cons.mp hp' with rfl | hp'
                    · have hb0 : Nat.blt (1000 + e) 1000 = false := by
                        cases hb0 : Nat.blt (1000 + e) 1000 with
                        | false => rfl
                        | true => have := zblt hb0; omega
                      have hz2 : zIx ρ (1000 + e) = (ρ e).toNat := by
                        unfold zIx
                        rw [hb0]
                        show (ρ (1000 + e - 1000)).toNat = _
                        rw [show 1000 + e - 1000 = e by omega]
                      have hxe : qD ρ [(1, e)] = ρ e := by rw [qd_at]; omega
                      show sU M o (qD ρ [(1, e)]).toNat (qD ρ v) o (zIx ρ (1000 + e)) = qD ρ v
                      rw [hz2, hxe]
                      exact sU_at _ _ _ _
                    · exact hmF p' hp'
                  · exact hmF p' hp') hI (sf_u hF (sina_ok g4 _)) hM1
                have h3 := k ρ2 M2 e1 e2 e3 e4 e5 e6
                rw [e8, e9] at h3
                have hp2 := zm_st (M := M) (J := J) (c := (pMt K).1) (ini := (pMt K).2.1.name == "<init>") (a := a) (rest := (qDS ρ rest).map sE) (kd := 0) (i := .iastore) (v := qD ρ v) (w := .int (Int32.ofInt (qD ρ v))) (Or.inl ⟨rfl, rfl, _, rfl, rfl⟩) hl hx0 (by omega) hb
                refine sr_stp he ha rfl (Or.inr (Or.inr (Or.inr (Or.inr ⟨_, _, ?_, rfl⟩)))) (sr_hp e7 h3)
                refine Eq.trans ?_ hp2
                show pMem false _ _ _ a (sE (0, qD ρ v) :: Value.int (Int32.ofInt (qD ρ x)) :: Value.ref (qD ρ y).toNat :: (qDS ρ rest).map sE) _ = _
                rw [hy]
                rfl
              · cases h
            · cases h
          · cases h
        · cases h
      · cases h
    · cases h
  · cases h
end RA
end
section
/-! THE RULES, one by one. -/
def xr_1 : qRu := (4, [[(1, 1), (-1, 3)], [(71, 0), (-1, 1)], [(1, 1)], [(1, 2)], [(41, 0), (-1, 2)], [(1, 3)]], [(54, 2, [(1, 3)])], [(55, [(1, 1)], [(1, 2)])], [], [])
def xr_2 : qRu := (4, [[(-6, 0), (1, 3)], [(6, 0), (-1, 3)], [(1, 1)], [(71, 0), (-1, 1)]], [(54, 2, [(1, 1)]), (54, 998, [(1, 2)]), (55, 1001, [(1, 3)])], [(54, [(2, 0)], [(1, 0), (1, 1)])], [(54, 998, [(1, 0), (1, 2)]), (54, 997, [(1, 2)])], [])
def xr_3 : qRu := (4, [[(-7, 0), (1, 3)], [(1, 1)], [(71, 0), (-1, 1)]], [(54, 2, [(1, 1)]), (54, 998, [(1, 2)]), (55, 1001, [(1, 3)])], [(54, [(2, 0)], [(1, 0), (1, 1)])], [(54, 998, [(1, 2)]), (54, 997, [(1, 2)])], [])
def xr_4 : qRu := (4, [[(5, 0), (-1, 3)], [(1, 1)], [(71, 0), (-1, 1)]], [(54, 2, [(1, 1)]), (54, 998, [(1, 2)]), (55, 1001, [(1, 3)])], [(54, [(2, 0)], [(1, 0), (1, 1)])], [(54, 998, [(1, 2)]), (54, 997, [(1, 2)])], [])
def xr_5 : qRu := (3, [[(-1, 0), (1, 1)], [(72, 0), (-1, 1)]], [(54, 2, [(1, 1)]), (54, 997, [(1, 2)])], [(54, [(2, 0)], [(-1, 0), (1, 1)])], [(54, 998, [(1, 2)]), (54, 997, [(1, 3)])], [])
def xr_6 : qRu := (1, [], [], [(54, [(2, 0)], [])], [(54, 998, []), (54, 997, [])], [])
def xr_7 : qRu := (3, [[(1, 1)]], [(54, 2, [(1, 1)]), (54, 998, [(1, 2)])], [], [], [[(1, 1), (-1, 2)], [(1, 2)]])
def xr_8 : qRu := (6, [[(-1, 0), (1, 1), (-1, 4)], [(1, 0), (-1, 1), (1, 4)], [(-1, 0), (1, 1)], [(-7, 0), (1, 5)]], [(54, 2, [(1, 1)]), (54, 998, [(1, 2)]), (54, 997, [(1, 3)]), (55, 1004, [(1, 5)])], [], [], [[(1, 2), (-1, 3)], [(-1, 2), (1, 3)]])
def xr_9 : qRu := (6, [[(-1, 0), (1, 1), (-1, 4)], [(1, 0), (-1, 1), (1, 4)], [(-1, 0), (1, 1)], [(5, 0), (-1, 5)]], [(54, 2, [(1, 1)]), (54, 998, [(1, 2)]), (54, 997, [(1, 3)]), (55, 1004, [(1, 5)])], [], [], [[(1, 2), (-1, 3)], [(-1, 2), (1, 3)]])
def xr_10 : qRu := (4, [[(-1, 0), (1, 1)]], [(54, 2, [(1, 1)]), (54, 998, [(1, 2)]), (54, 997, [(1, 3)])], [], [], [[(1, 2), (-1, 3)], [(1, 0), (-1, 2), (1, 3)]])
theorem xc_ge {M M' : sM} {x : Nat} (h : ∀ k, k < x → M' 55 k = M 55 k) : ∀ t, t ≤ x → xC M' t = xC M t
  | 0, _ => rfl
  | t + 1, ht => by
    show xC M' t + (if M' 55 t = 6 then 1 else 0) = xC M t + (if M 55 t = 6 then 1 else 0)
    rw [xc_ge h t (by omega), h t (by omega)]
theorem xc_b (M : sM) : ∀ t : Nat, 0 ≤ xC M t ∧ xC M t ≤ t
  | 0 => ⟨Int.le_refl 0, Int.le_refl 0⟩
  | t + 1 => by
    have h := xc_b M t
    show 0 ≤ xC M t + (if M 55 t = 6 then 1 else 0) ∧ xC M t + (if M 55 t = 6 then 1 else 0) ≤ ((t + 1 : Nat) : Int)
    split <;> omega
theorem xc_s (M : sM) (t : Nat) : xC M (t + 1) = xC M t + (if M 55 t = 6 then 1 else 0) := rfl
theorem zix_p {ρ : Nat → Int} {k : Nat} : zIx ρ (1000 + k) = (ρ k).toNat := by
  unfold zIx
  have hb0 : Nat.blt (1000 + k) 1000 = false := by
    cases hb0 : Nat.blt (1000 + k) 1000 with
    | false => rfl
    | true => have := zblt hb0; omega
  rw [hb0]
  show (ρ (1000 + k - 1000)).toNat = _
  rw [show 1000 + k - 1000 = k by omega]
/-- the ghost places of 54 are written -/
theorem xg_54 {M : sM} {k : Nat} {v : Int} (hk : k = 998 ∨ k = 997) (h : sI0 M) : sI0 (sU M 54 k v) := si_u0 h (fun r hr => by rcases hk with rfl | rfl <;> cases hr)
theorem xr_top {M : sM} {t g h : Int} (hI : sI M) (ht0 : 0 ≤ t) (ht1 : t ≤ 72) (hg : g = xC M t.toNat) (hh : h = xC M (t.toNat - 1)) : sI (sU (sU (sU M 54 2 t) 54 998 g) 54 997 h) := by
  refine ⟨xg_54 (Or.inr rfl) (xg_54 (Or.inl rfl) (si_u0 hI.1 (fun r hr => ?_))), ?_⟩
  · have hr : some ((0 : Int), (72 : Int)) = some r := hr
    cases hr
    exact ⟨ht0, ht1⟩
  · have h55 : ∀ k, sU (sU (sU M 54 2 t) 54 998 g) 54 997 h 55 k = M 55 k := fun k => by
      rw [sU_ne (fun z => by omega), sU_ne (fun z => by omega), sU_ne (fun z => by omega)]
    have h2 : sU (sU (sU M 54 2 t) 54 998 g) 54 997 h 54 2 = t := by
      rw [sU_ne (fun z => by omega), sU_ne (fun z => by omega), sU_at]
    have h98 : sU (sU (sU M 54 2 t) 54 998 g) 54 997 h 54 998 = g := by
      rw [sU_ne (fun z => by omega), sU_at]
    refine ⟨?_, xi3_congr (fun o k _ ho => by rw [sU_ne (fun z => by omega), sU_ne (fun z => by omega), sU_ne (fun z => by omega)]) hI.2.2⟩
    unfold XI2
    rw [h2, h98, sU_at, xc_congr h55, xc_congr h55]
    exact ⟨hg, hh⟩
theorem xo_1 : qRok xr_1 := by
  intro ρ M h0 hf hm hI
  have f1 := hf [(1, 1), (-1, 3)] (by decide)
  have f2 := hf [(71, 0), (-1, 1)] (by decide)
  have f3 := hf [(1, 1)] (by decide)
  have f4 := hf [(1, 2)] (by decide)
  have f5 := hf [(41, 0), (-1, 2)] (by decide)
  simp only [qD, h0] at f1 f2 f3 f4 f5
  have m1 : M 54 2 = 1 * ρ 3 + 0 := hm (54, 2, [(1, 3)]) (by decide)
  refine ⟨ρ, fun _ _ => rfl, fun f h => (nomatch h), ?_⟩
  show sI (sU M 55 (1 * ρ 1 + 0).toNat (1 * ρ 2 + 0))
  refine ⟨si_u0 hI.1 (fun r hr => ?_), ?_⟩
  · have hlt : (1 * ρ 1 + 0).toNat < 72 := by omega
    have hr2 : sRg 55 (1 * ρ 1 + 0).toNat = some (0, 41) := by
      unfold sRg
      show cond (Nat.blt (1 * ρ 1 + 0).toNat 72) ((([some ((0 : Int), (41 : Int))] : List (Option (Int × Int)))[(1 * ρ 1 + 0).toNat % 1]?).getD none) none = _
      rw [show Nat.blt (1 * ρ 1 + 0).toNat 72 = true from Nat.ble_eq_true_of_le hlt, Nat.mod_one]
      rfl
    rw [hr2] at hr
    cases hr
    exact ⟨by show (0 : Int) ≤ _; omega, by show _ ≤ (41 : Int); omega⟩
  · refine ⟨?_, xi3_congr (fun o k _ ho => sU_ne (fun z => by omega)) hI.2.2⟩
    have hx := hI.2.1
    unfold XI2 at hx ⊢
    have e1 : sU M 55 (1 * ρ 1 + 0).toNat (1 * ρ 2 + 0) 54 2 = M 54 2 := sU_ne (fun z => by omega)
    have e2 : sU M 55 (1 * ρ 1 + 0).toNat (1 * ρ 2 + 0) 54 998 = M 54 998 := sU_ne (fun z => by omega)
    have e3 : sU M 55 (1 * ρ 1 + 0).toNat (1 * ρ 2 + 0) 54 997 = M 54 997 := sU_ne (fun z => by omega)
    have hc : ∀ t : Nat, t ≤ (1 * ρ 1 + 0).toNat → xC (sU M 55 (1 * ρ 1 + 0).toNat (1 * ρ 2 + 0)) t = xC M t := fun t => xc_ge (fun k hk => sU_ne (fun z => by omega)) t
    rw [e1, e2, e3, hc _ (by omega), hc _ (by omega)]
    exact hx
theorem xr_push {M : sM} {t g w : Int} (hI : sI M) (m1 : M 54 2 = t) (m2 : M 54 998 = g) (m3 : M 55 t.toNat = w) (h0 : 0 ≤ t) (h1 : t ≤ 71) : sI (sU (sU (sU M 54 2 (1 + t)) 54 998 (g + (if w = 6 then 1 else 0))) 54 997 g) := by
  have hx := hI.2.1.1
  rw [m1, m2] at hx
  refine xr_top hI (by omega) (by omega) ?_ ?_
  · rw [show (1 + t).toNat = t.toNat + 1 by omega, xc_s, m3, ← hx]
  · rw [show (1 + t).toNat - 1 = t.toNat by omega]
    exact hx
theorem xo_2 : qRok xr_2 := by
  intro ρ M h0 hf hm hI
  have f1 := hf [(-6, 0), (1, 3)] (by decide)
  have f2 := hf [(6, 0), (-1, 3)] (by decide)
  have f3 := hf [(1, 1)] (by decide)
  have f4 := hf [(71, 0), (-1, 1)] (by decide)
  simp only [qD, h0] at f1 f2 f3 f4
  have m1 : M 54 2 = 1 * ρ 1 + 0 := hm (54, 2, [(1, 1)]) (by decide)
  have m2 : M 54 998 = 1 * ρ 2 + 0 := hm (54, 998, [(1, 2)]) (by decide)
  have m3 : M 55 (zIx ρ (1000 + 1)) = 1 * ρ 3 + 0 := hm (55, 1001, [(1, 3)]) (by decide)
  rw [zix_p] at m3
  refine ⟨ρ, fun _ _ => rfl, fun f h => (nomatch h), ?_⟩
  have := xr_push (t := ρ 1) (g := ρ 2) (w := ρ 3) hI (by omega) (by omega) (by omega) (by omega) (by omega)
  rw [if_pos (by omega)] at this
  show sI (sU (sU (sU M 54 (2 * ρ 0 + 0).toNat (1 * ρ 0 + (1 * ρ 1 + 0))) 54 998 (1 * ρ 0 + (1 * ρ 2 + 0))) 54 997 (1 * ρ 2 + 0))
  rw [show (2 * ρ 0 + 0 : Int).toNat = 2 by rw [h0]; rfl, h0, show (1 * 1 + (1 * ρ 1 + 0) : Int) = 1 + ρ 1 by omega, show (1 * 1 + (1 * ρ 2 + 0) : Int) = ρ 2 + 1 by omega, show (1 * ρ 2 + 0 : Int) = ρ 2 by omega]
  exact this
theorem xo_3 : qRok xr_3 := by
  intro ρ M h0 hf hm hI
  have f1 := hf [(-7, 0), (1, 3)] (by decide)
  have f3 := hf [(1, 1)] (by decide)
  have f4 := hf [(71, 0), (-1, 1)] (by decide)
  simp only [qD, h0] at f1 f3 f4
  have m1 : M 54 2 = 1 * ρ 1 + 0 := hm (54, 2, [(1, 1)]) (by decide)
  have m2 : M 54 998 = 1 * ρ 2 + 0 := hm (54, 998, [(1, 2)]) (by decide)
  have m3 : M 55 (zIx ρ (1000 + 1)) = 1 * ρ 3 + 0 := hm (55, 1001, [(1, 3)]) (by decide)
  rw [zix_p] at m3
  refine ⟨ρ, fun _ _ => rfl, fun f h => (nomatch h), ?_⟩
  have := xr_push (t := ρ 1) (g := ρ 2) (w := ρ 3) hI (by omega) (by omega) (by omega) (by omega) (by omega)
  rw [if_neg (by omega)] at this
  show sI (sU (sU (sU M 54 (2 * ρ 0 + 0).toNat (1 * ρ 0 + (1 * ρ 1 + 0))) 54 998 (1 * ρ 2 + 0)) 54 997 (1 * ρ 2 + 0))
  rw [show (2 * ρ 0 + 0 : Int).toNat = 2 by rw [h0]; rfl, h0, show (1 * 1 + (1 * ρ 1 + 0) : Int) = 1 + ρ 1 by omega, show (1 * ρ 2 + 0 : Int) = ρ 2 by omega]
  rw [show ρ 2 + 0 = ρ 2 by omega] at this
  exact this
theorem xo_4 : qRok xr_4 := by
  intro ρ M h0 hf hm hI
  have f1 := hf [(5, 0), (-1, 3)] (by decide)
  have f3 := hf [(1, 1)] (by decide)
  have f4 := hf [(71, 0), (-1, 1)] (by decide)
  simp only [qD, h0] at f1 f3 f4
  have m1 : M 54 2 = 1 * ρ 1 + 0 := hm (54, 2, [(1, 1)]) (by decide)
  have m2 : M 54 998 = 1 * ρ 2 + 0 := hm (54, 998, [(1, 2)]) (by decide)
  have m3 : M 55 (zIx ρ (1000 + 1)) = 1 * ρ 3 + 0 := hm (55, 1001, [(1, 3)]) (by decide)
  rw [zix_p] at m3
  refine ⟨ρ, fun _ _ => rfl, fun f h => (nomatch h), ?_⟩
  have := xr_push (t := ρ 1) (g := ρ 2) (w := ρ 3) hI (by omega) (by omega) (by omega) (by omega) (by omega)
  rw [if_neg (by omega)] at this
  show sI (sU (sU (sU M 54 (2 * ρ 0 + 0).toNat (1 * ρ 0 + (1 * ρ 1 + 0))) 54 998 (1 * ρ 2 + 0)) 54 997 (1 * ρ 2 + 0))
  rw [show (2 * ρ 0 + 0 : Int).toNat = 2 by rw [h0]; rfl, h0, show (1 * 1 + (1 * ρ 1 + 0) : Int) = 1 + ρ 1 by omega, show (1 * ρ 2 + 0 : Int) = ρ 2 by omega]
  rw [show ρ 2 + 0 = ρ 2 by omega] at this
  exact this
theorem xo_5 : qRok xr_5 := by
  intro ρ M h0 hf hm hI
  have f1 := hf [(-1, 0), (1, 1)] (by decide)
  have f2 := hf [(72, 0), (-1, 1)] (by decide)
  simp only [qD, h0] at f1 f2
  have m1 : M 54 2 = 1 * ρ 1 + 0 := hm (54, 2, [(1, 1)]) (by decide)
  have m2 : M 54 997 = 1 * ρ 2 + 0 := hm (54, 997, [(1, 2)]) (by decide)
  have hx := hI.2.1.2
  rw [m1, m2] at hx
  refine ⟨fun a => cond (Nat.blt a 3) (ρ a) (xC M ((ρ 1 - 1).toNat - 1)), fun a ha => ?_, fun f h => (nomatch h), ?_⟩
  · show cond (Nat.blt a 3) (ρ a) _ = ρ a
    rw [show Nat.blt a 3 = true from Nat.ble_eq_true_of_le ha]; rfl
  · show sI (sU (sU (sU M 54 (2 * ρ 0 + 0).toNat (-1 * ρ 0 + (1 * ρ 1 + 0))) 54 998 (1 * ρ 2 + 0)) 54 997 (1 * xC M ((ρ 1 - 1).toNat - 1) + 0))
    rw [show (2 * ρ 0 + 0 : Int).toNat = 2 by rw [h0]; rfl, h0, show (-1 * 1 + (1 * ρ 1 + 0) : Int) = ρ 1 - 1 by omega, show (1 * xC M ((ρ 1 - 1).toNat - 1) + 0 : Int) = xC M ((ρ 1 - 1).toNat - 1) by omega]
    refine xr_top hI (by omega) (by omega) ?_ rfl
    rw [hx]
    congr 1
    omega
theorem xo_6 : qRok xr_6 := by
  intro ρ M h0 hf hm hI
  refine ⟨ρ, fun _ _ => rfl, fun f h => (nomatch h), ?_⟩
  show sI (sU (sU (sU M 54 (2 * ρ 0 + 0).toNat 0) 54 998 0) 54 997 0)
  rw [show (2 * ρ 0 + 0 : Int).toNat = 2 by rw [h0]; rfl]
  exact xr_top (t := 0) (g := 0) (h := 0) hI (by omega) (by omega) rfl rfl
theorem xo_7 : qRok xr_7 := by
  intro ρ M h0 hf hm hI
  have f1 := hf [(1, 1)] (by decide)
  simp only [qD] at f1
  have m1 : M 54 2 = 1 * ρ 1 + 0 := hm (54, 2, [(1, 1)]) (by decide)
  have m2 : M 54 998 = 1 * ρ 2 + 0 := hm (54, 998, [(1, 2)]) (by decide)
  have hx := hI.2.1.1
  rw [m1, m2] at hx
  have hb := xc_b M (1 * ρ 1 + 0).toNat
  refine ⟨ρ, fun _ _ => rfl, fun f h => ?_, hI⟩
  rcases List.mem_cons.mp h with rfl | h
  · show 0 ≤ 1 * ρ 1 + (-1 * ρ 2 + 0)
    omega
  · rcases List.mem_cons.mp h with rfl | h
    · show 0 ≤ 1 * ρ 2 + 0
      omega
    · cases h
theorem xr_below {M : sM} (hI : sI M) (h1 : 1 ≤ M 54 2) : M 54 998 = M 54 997 + (if M 55 (M 54 2 - 1).toNat = 6 then 1 else 0) := by
  have ha := hI.2.1.1
  have hb := hI.2.1.2
  rw [show (M 54 2).toNat = ((M 54 2).toNat - 1) + 1 by omega, xc_s, ← hb, show (M 54 2).toNat - 1 = (M 54 2 - 1).toNat by omega] at ha
  exact ha
theorem xo_8 : qRok xr_8 := by
  intro ρ M h0 hf hm hI
  have f1 := hf [(-1, 0), (1, 1), (-1, 4)] (by decide)
  have f2 := hf [(1, 0), (-1, 1), (1, 4)] (by decide)
  have f3 := hf [(-1, 0), (1, 1)] (by decide)
  have f4 := hf [(-7, 0), (1, 5)] (by decide)
  simp only [qD, h0] at f1 f2 f3 f4
  have m1 : M 54 2 = 1 * ρ 1 + 0 := hm (54, 2, [(1, 1)]) (by decide)
  have m2 : M 54 998 = 1 * ρ 2 + 0 := hm (54, 998, [(1, 2)]) (by decide)
  have m3 : M 54 997 = 1 * ρ 3 + 0 := hm (54, 997, [(1, 3)]) (by decide)
  have m4 : M 55 (zIx ρ (1000 + 4)) = 1 * ρ 5 + 0 := hm (55, 1004, [(1, 5)]) (by decide)
  rw [zix_p] at m4
  have hx := xr_below hI (by omega)
  rw [show (M 54 2 - 1).toNat = (ρ 4).toNat by omega, m4, if_neg (by omega)] at hx
  refine ⟨ρ, fun _ _ => rfl, fun f h => ?_, hI⟩
  rcases List.mem_cons.mp h with rfl | h
  · show 0 ≤ 1 * ρ 2 + (-1 * ρ 3 + 0)
    omega
  · rcases List.mem_cons.mp h with rfl | h
    · show 0 ≤ -1 * ρ 2 + (1 * ρ 3 + 0)
      omega
    · cases h
theorem xo_9 : qRok xr_9 := by
  intro ρ M h0 hf hm hI
  have f1 := hf [(-1, 0), (1, 1), (-1, 4)] (by decide)
  have f2 := hf [(1, 0), (-1, 1), (1, 4)] (by decide)
  have f3 := hf [(-1, 0), (1, 1)] (by decide)
  have f4 := hf [(5, 0), (-1, 5)] (by decide)
  simp only [qD, h0] at f1 f2 f3 f4
  have m1 : M 54 2 = 1 * ρ 1 + 0 := hm (54, 2, [(1, 1)]) (by decide)
  have m2 : M 54 998 = 1 * ρ 2 + 0 := hm (54, 998, [(1, 2)]) (by decide)
  have m3 : M 54 997 = 1 * ρ 3 + 0 := hm (54, 997, [(1, 3)]) (by decide)
  have m4 : M 55 (zIx ρ (1000 + 4)) = 1 * ρ 5 + 0 := hm (55, 1004, [(1, 5)]) (by decide)
  rw [zix_p] at m4
  have hx := xr_below hI (by omega)
  rw [show (M 54 2 - 1).toNat = (ρ 4).toNat by omega, m4, if_neg (by omega)] at hx
  refine ⟨ρ, fun _ _ => rfl, fun f h => ?_, hI⟩
  rcases List.mem_cons.mp h with rfl | h
  · show 0 ≤ 1 * ρ 2 + (-1 * ρ 3 + 0)
    omega
  · rcases List.mem_cons.mp h with rfl | h
    · show 0 ≤ -1 * ρ 2 + (1 * ρ 3 + 0)
      omega
    · cases h
theorem xo_10 : qRok xr_10 := by
  intro ρ M h0 hf hm hI
  have f3 := hf [(-1, 0), (1, 1)] (by decide)
  simp only [qD, h0] at f3
  have m1 : M 54 2 = 1 * ρ 1 + 0 := hm (54, 2, [(1, 1)]) (by decide)
  have m2 : M 54 998 = 1 * ρ 2 + 0 := hm (54, 998, [(1, 2)]) (by decide)
  have m3 : M 54 997 = 1 * ρ 3 + 0 := hm (54, 997, [(1, 3)]) (by decide)
  have hx := xr_below hI (by omega)
  have hi : (0 : Int) ≤ (if M 55 (M 54 2 - 1).toNat = 6 then 1 else 0) ∧ (if M 55 (M 54 2 - 1).toNat = 6 then 1 else 0) ≤ (1 : Int) := by split <;> omega
  refine ⟨ρ, fun _ _ => rfl, fun f h => ?_, hI⟩
  rcases List.mem_cons.mp h with rfl | h
  · show 0 ≤ 1 * ρ 2 + (-1 * ρ 3 + 0)
    omega
  · rcases List.mem_cons.mp h with rfl | h
    · show 0 ≤ 1 * ρ 0 + (-1 * ρ 2 + (1 * ρ 3 + 0))
      omega
    · cases h
def xr_11 : qRu := (3, [[(1, 1)], [(71, 0), (-1, 1)]], [(54, 2, [(1, 1)]), (54, 998, [(1, 2)])], [(54, [(2, 0)], [(1, 0), (1, 1)])], [(54, 998, [(1, 3)]), (54, 997, [(1, 2)])], [[(-1, 2), (1, 3)], [(1, 0), (1, 2), (-1, 3)]])
theorem xo_11 : qRok xr_11 := by
  intro ρ M h0 hf hm hI
  have f3 := hf [(1, 1)] (by decide)
  have f4 := hf [(71, 0), (-1, 1)] (by decide)
  simp only [qD, h0] at f3 f4
  have m1 : M 54 2 = 1 * ρ 1 + 0 := hm (54, 2, [(1, 1)]) (by decide)
  have m2 : M 54 998 = 1 * ρ 2 + 0 := hm (54, 998, [(1, 2)]) (by decide)
  have hp := xr_push (t := ρ 1) (g := ρ 2) (w := M 55 (ρ 1).toNat) hI (by omega) (by omega) rfl (by omega) (by omega)
  generalize hgv : ρ 2 + (if M 55 (ρ 1).toNat = 6 then 1 else 0) = gv at hp
  have hb : ρ 2 ≤ gv ∧ gv ≤ ρ 2 + 1 := by rw [← hgv]; split <;> omega
  refine ⟨fun a => cond (Nat.blt a 3) (ρ a) gv, fun a ha => ?_, fun f h => ?_, ?_⟩
  · show cond (Nat.blt a 3) (ρ a) _ = ρ a
    rw [show Nat.blt a 3 = true from Nat.ble_eq_true_of_le ha]; rfl
  · rcases List.mem_cons.mp h with rfl | h
    · show 0 ≤ -1 * ρ 2 + (1 * gv + 0)
      omega
    · rcases List.mem_cons.mp h with rfl | h
      · show 0 ≤ 1 * ρ 0 + (1 * ρ 2 + (-1 * gv + 0))
        omega
      · cases h
  · show sI (sU (sU (sU M 54 (2 * ρ 0 + 0).toNat (1 * ρ 0 + (1 * ρ 1 + 0))) 54 998 (1 * gv + 0)) 54 997 (1 * ρ 2 + 0))
    rw [show (2 * ρ 0 + 0 : Int).toNat = 2 by rw [h0]; rfl, h0, show (1 * 1 + (1 * ρ 1 + 0) : Int) = 1 + ρ 1 by omega, show (1 * gv + 0 : Int) = gv by omega, show (1 * ρ 2 + 0 : Int) = ρ 2 by omega]
    exact hp
def xr_12 : qRu := (2, [[(1, 1)], [(700, 0), (-1, 1)]], [], [(91, [(27, 0)], [(1, 1)])], [(91, 990, [(1, 2)])], [])
def xr_13 : qRu := (2, [[(1, 1)], [(700, 0), (-1, 1)]], [], [(91, [(26, 0)], [(1, 1)])], [(91, 990, [(1, 2)])], [])
def xr_14 : qRu := (3, [[(1, 1)], [(699, 0), (-1, 1)], [(1, 2)], [(255, 0), (-1, 2)]], [], [(92, [(1, 1)], [(1, 2)])], [(91, 990, [(1, 3)])], [])
def xr_15 : qRu := (5, [[(-1, 0), (-1, 1), (1, 2)], [(1, 1)]], [(91, 27, [(1, 1)]), (91, 26, [(1, 2)]), (92, 1001, [(1, 3)]), (91, 990, [(1, 4)])], [], [], [[(-1, 3), (1, 4)], [(1, 3), (-1, 4)]])
def xr_16 : qRu := (4, [[(1, 1), (-1, 2)]], [(91, 27, [(1, 1)]), (91, 26, [(1, 2)]), (91, 990, [(1, 3)])], [], [], [[(1, 0), (1, 3)], [(-1, 0), (-1, 3)]])
/-- whatever is written on the reference's side, the byte that is looked at gets a new name -/
theorem xr_byte {M : sM} {o k : Nat} {v : Int} (hI : sI M) (ho : 60 ≤ o) (hg : ¬ (o = 91 ∧ k = 990)) (hr : ∀ r, sRg o k = some r → r.1 ≤ v ∧ v ≤ r.2) : sI (sU (sU M o k v) 91 990 (xH (sU M o k v))) := by
  refine ⟨si_u0 (si_u0 hI.1 hr) (fun r hr => by cases hr), xi2_congr (fun o' k' _ ho' => by rw [sU_ne (fun z => by omega), sU_ne (fun z => by omega)]) hI.2.1, ?_⟩
  unfold XI3
  rw [sU_at]
  have e : ∀ o' k' x, ¬ (o' = 91 ∧ k' = 990) → sU (sU M o k v) 91 990 x o' k' = sU M o k v o' k' := fun o' k' x h => sU_ne h
  unfold xH
  rw [e _ _ _ (by omega), e _ _ _ (by omega), e _ _ _ (by omega)]
theorem xo_12 : qRok xr_12 := by
  intro ρ M h0 hf hm hI
  have f1 := hf [(1, 1)] (by decide)
  have f2 := hf [(700, 0), (-1, 1)] (by decide)
  simp only [qD, h0] at f1 f2
  refine ⟨fun a => cond (Nat.blt a 2) (ρ a) (xH (sU M 91 27 (1 * ρ 1 + 0))), fun a ha => ?_, fun f h => (nomatch h), ?_⟩
  · show cond (Nat.blt a 2) (ρ a) _ = ρ a
    rw [show Nat.blt a 2 = true from Nat.ble_eq_true_of_le ha]; rfl
  · show sI (sU (sU M 91 (27 * ρ 0 + 0).toNat (1 * ρ 1 + 0)) 91 990 (1 * xH (sU M 91 27 (1 * ρ 1 + 0)) + 0))
    rw [show (27 * ρ 0 + 0 : Int).toNat = 27 by rw [h0]; rfl, show (1 * xH (sU M 91 27 (1 * ρ 1 + 0)) + 0 : Int) = xH (sU M 91 27 (1 * ρ 1 + 0)) by omega]
    refine xr_byte hI (by omega) (by omega) (fun r hr => ?_)
    have hr : some ((0 : Int), (700 : Int)) = some r := hr
    cases hr
    exact ⟨by show (0 : Int) ≤ _; omega, by show _ ≤ (700 : Int); omega⟩
theorem xo_13 : qRok xr_13 := by
  intro ρ M h0 hf hm hI
  have f1 := hf [(1, 1)] (by decide)
  have f2 := hf [(700, 0), (-1, 1)] (by decide)
  simp only [qD, h0] at f1 f2
  refine ⟨fun a => cond (Nat.blt a 2) (ρ a) (xH (sU M 91 26 (1 * ρ 1 + 0))), fun a ha => ?_, fun f h => (nomatch h), ?_⟩
  · show cond (Nat.blt a 2) (ρ a) _ = ρ a
    rw [show Nat.blt a 2 = true from Nat.ble_eq_true_of_le ha]; rfl
  · show sI (sU (sU M 91 (26 * ρ 0 + 0).toNat (1 * ρ 1 + 0)) 91 990 (1 * xH (sU M 91 26 (1 * ρ 1 + 0)) + 0))
    rw [show (26 * ρ 0 + 0 : Int).toNat = 26 by rw [h0]; rfl, show (1 * xH (sU M 91 26 (1 * ρ 1 + 0)) + 0 : Int) = xH (sU M 91 26 (1 * ρ 1 + 0)) by omega]
    refine xr_byte hI (by omega) (by omega) (fun r hr => ?_)
    have hr : some ((0 : Int), (700 : Int)) = some r := hr
    cases hr
    exact ⟨by show (0 : Int) ≤ _; omega, by show _ ≤ (700 : Int); omega⟩
theorem xo_14 : qRok xr_14 := by
  intro ρ M h0 hf hm hI
  have f1 := hf [(1, 1)] (by decide)
  have f2 := hf [(699, 0), (-1, 1)] (by decide)
  have f3 := hf [(1, 2)] (by decide)
  have f4 := hf [(255, 0), (-1, 2)] (by decide)
  simp only [qD, h0] at f1 f2 f3 f4
  refine ⟨fun a => cond (Nat.blt a 3) (ρ a) (xH (sU M 92 (1 * ρ 1 + 0).toNat (1 * ρ 2 + 0))), fun a ha => ?_, fun f h => (nomatch h), ?_⟩
  · show cond (Nat.blt a 3) (ρ a) _ = ρ a
    rw [show Nat.blt a 3 = true from Nat.ble_eq_true_of_le ha]; rfl
  · show sI (sU (sU M 92 (1 * ρ 1 + 0).toNat (1 * ρ 2 + 0)) 91 990 (1 * xH (sU M 92 (1 * ρ 1 + 0).toNat (1 * ρ 2 + 0)) + 0))
    rw [show (1 * xH (sU M 92 (1 * ρ 1 + 0).toNat (1 * ρ 2 + 0)) + 0 : Int) = xH (sU M 92 (1 * ρ 1 + 0).toNat (1 * ρ 2 + 0)) by omega]
    refine xr_byte hI (by omega) (by omega) (fun r hr => ?_)
    have hlt : (1 * ρ 1 + 0).toNat < 700 := by omega
    have hr2 : sRg 92 (1 * ρ 1 + 0).toNat = some (0, 255) := by
      unfold sRg
      show cond (Nat.blt (1 * ρ 1 + 0).toNat 700) ((([some ((0 : Int), (255 : Int))] : List (Option (Int × Int)))[(1 * ρ 1 + 0).toNat % 1]?).getD none) none = _
      rw [show Nat.blt (1 * ρ 1 + 0).toNat 700 = true from Nat.ble_eq_true_of_le hlt, Nat.mod_one]
      rfl
    rw [hr2] at hr
    cases hr
    exact ⟨by show (0 : Int) ≤ _; omega, by show _ ≤ (255 : Int); omega⟩
theorem xo_15 : qRok xr_15 := by
  intro ρ M h0 hf hm hI
  have f1 := hf [(-1, 0), (-1, 1), (1, 2)] (by decide)
  have f2 := hf [(1, 1)] (by decide)
  simp only [qD, h0] at f1 f2
  have m1 : M 91 27 = 1 * ρ 1 + 0 := hm (91, 27, [(1, 1)]) (by decide)
  have m2 : M 91 26 = 1 * ρ 2 + 0 := hm (91, 26, [(1, 2)]) (by decide)
  have m3 : M 92 (zIx ρ (1000 + 1)) = 1 * ρ 3 + 0 := hm (92, 1001, [(1, 3)]) (by decide)
  have m4 : M 91 990 = 1 * ρ 4 + 0 := hm (91, 990, [(1, 4)]) (by decide)
  rw [zix_p] at m3
  have hx : M 91 990 = xH M := hI.2.2
  unfold xH at hx
  rw [if_pos (by omega), show (M 91 27).toNat = (ρ 1).toNat by omega, m3] at hx
  refine ⟨ρ, fun _ _ => rfl, fun f h => ?_, hI⟩
  rcases List.mem_cons.mp h with rfl | h
  · show 0 ≤ -1 * ρ 3 + (1 * ρ 4 + 0)
    omega
  · rcases List.mem_cons.mp h with rfl | h
    · show 0 ≤ 1 * ρ 3 + (-1 * ρ 4 + 0)
      omega
    · cases h
theorem xo_16 : qRok xr_16 := by
  intro ρ M h0 hf hm hI
  have f1 := hf [(1, 1), (-1, 2)] (by decide)
  simp only [qD] at f1
  have m1 : M 91 27 = 1 * ρ 1 + 0 := hm (91, 27, [(1, 1)]) (by decide)
  have m2 : M 91 26 = 1 * ρ 2 + 0 := hm (91, 26, [(1, 2)]) (by decide)
  have m4 : M 91 990 = 1 * ρ 3 + 0 := hm (91, 990, [(1, 3)]) (by decide)
  have hx : M 91 990 = xH M := hI.2.2
  unfold xH at hx
  rw [if_neg (by omega)] at hx
  refine ⟨ρ, fun _ _ => rfl, fun f h => ?_, hI⟩
  rcases List.mem_cons.mp h with rfl | h
  · show 0 ≤ 1 * ρ 0 + (1 * ρ 3 + 0)
    omega
  · rcases List.mem_cons.mp h with rfl | h
    · show 0 ≤ -1 * ρ 0 + (-1 * ρ 3 + 0)
      omega
    · cases h
def qRT : List qRu := [xr_1, xr_2, xr_3, xr_4, xr_5, xr_6, xr_7, xr_8, xr_9, xr_10, xr_11, xr_12, xr_13, xr_14, xr_15, xr_16]
theorem zr_n : ∀ r ∈ ([] : List qRu), qRok r := fun _ h => nomatch h
theorem zr_c {r : qRu} {l : List qRu} (h : qRok r) (t : ∀ r ∈ l, qRok r) : ∀ d ∈ r :: l, qRok d := fun d hd => (List.mem_cons.mp hd).elim (fun e => e ▸ h) (t d)
theorem qrt_ok : ∀ r ∈ qRT, qRok r := zr_c xo_1 (zr_c xo_2 (zr_c xo_3 (zr_c xo_4 (zr_c xo_5 (zr_c xo_6 (zr_c xo_7 (zr_c xo_8 (zr_c xo_9 (zr_c xo_10 (zr_c xo_11 (zr_c xo_12 (zr_c xo_13 (zr_c xo_14 (zr_c xo_15 (zr_c xo_16 zr_n)))))))))))))))
end
section
/-! CUTS AND RUNS; A CONTRACT THAT IS CHECKED HOLDS. A cut: place, locals, stack, facts, memory, names, a number that falls from cut to cut. -/
abbrev qCu : Type := Nat × qLv × List qV × List qF × qMm × Nat × qF
def qSj (g : Nat) (l : List qF) (a : Nat) : qF := cond (Nat.blt a g) [(1, a)] (qSg l (a - g))
def qJm (c : qCt) (g : Nat) (μ : qF) (t : qCu) (s : qS) (hs : qHs) : Option qHs := match hs with
  | u :: hs1 => (match qTch g s.2.1 u s.2.2.1 s.2.2.2.1 s.2.2.2.2.1 s.2.2.2.2.2 with
    | some q => (match qEnts q.2.1 (qSub (qSub μ (qSb (qSj (cG c) (hs1.take (t.2.2.2.2.2.1 - cG c))) t.2.2.2.2.2.2)) (qCn 1) :: t.2.2.2.1.map (qSb (qSj (cG c) (hs1.take (t.2.2.2.2.2.1 - cG c))))) (hs1.drop (t.2.2.2.2.2.1 - cG c)) with
      | some hs2 => cond (t.2.1.all (fun p => qGet s.2.1 p.1 == some (p.2.1, qSb (qSj (cG c) (hs1.take (t.2.2.2.2.2.1 - cG c))) p.2.2)) && ((q.1 == t.2.2.1.map (fun v => (v.1, qSb (qSj (cG c) (hs1.take (t.2.2.2.2.2.1 - cG c))) v.2))) && t.2.2.2.2.1.all (fun p => Nat.blt p.2.1 1000 && qFind q.2.2.1 p.1 p.2.1 == some (qSb (qSj (cG c) (hs1.take (t.2.2.2.2.2.1 - cG c))) p.2.2)))) (some hs2) none
      | none => none)
    | none => none)
  | [] => none
/-- a cut is good below m -/
def qCg (d K : Nat) (J : pHp) (c : qCt) (ρc : Nat → Int) (M0 : sM) (t : qCu) (m : Int) : Prop :=
  ∀ (ρ : Nat → Int) (M : sM), ρ 0 = 1 → (∀ a, a < cG c → ρ a = ρc a) → (∀ f ∈ t.2.2.2.1, 0 ≤ qD ρ f) → (∀ q ∈ t.2.2.2.2.1, M q.1 (zIx ρ q.2.1) = qD ρ q.2.2) → sI M → sF (cS c) M0 M → qD ρ t.2.2.2.2.2.2 < m → sR sLay d K J t.1 (qDL ρ t.2.1) (qDS ρ t.2.2.1) M (qPost c ρc M0)
section CHK
variable {d K : Nat} {J : pHp} {M0 : sM} {g : Nat} {ρ0 ρc : Nat → Int} {c : qCt}
theorem qjm_ok (hg1 : 0 < g) (hc1 : 0 < cG c) (hcg : ∀ a, a < cG c → ρ0 a = ρc a) (hle : cG c ≤ g) {μ : qF} {m : Int} (hμ : ∀ ρ : Nat → Int, (∀ a, a < g → ρ a = ρ0 a) → qD ρ μ = m) {t : qCu} (ht : qCg d K J c ρc M0 t m) {s : qS} (hpc : t.1 = s.1) {hs hs' : qHs} (h : qJm c g μ t s hs = some hs') : qGS d K J (qPost c ρc M0) M0 (cS c) g ρ0 s := by
  unfold qJm at h
  split at h
  · rename_i u hs1
    split at h
    · rename_i q hq
      split at h
      · rename_i hs2 hen
        obtain ⟨h1, h2⟩ := zcond h
        refine qg_tch hg1 hq ?_
        intro ρ M hg h0 hf hm hI hF
        generalize hs1.take (t.2.2.2.2.2.1 - cG c) = l at *
        rw [Bool.and_eq_true, Bool.and_eq_true] at h1
        obtain ⟨g1, g2, g3⟩ := h1
        have hσ : ∀ a, a < cG c → qD ρ (qSj (cG c) l a) = ρ a := by
          intro a ha
          unfold qSj
          rw [show Nat.blt a (cG c) = true from Nat.ble_eq_true_of_le ha, cond_true, qd_at]
          omega
        have hents := qents_ok h0 hf hen
        have h3 := ht (fun a => qD ρ (qSj (cG c) l a)) M ((hσ 0 hc1).trans h0) (fun a ha => (hσ a ha).trans ((hg a (by omega)).trans (hcg a ha))) (fun f hf' => by
          have := hents _ (List.mem_cons_of_mem _ (List.mem_map_of_mem hf'))
          rw [qd_sb] at this
          exact this) (fun p hp => by
          have h5 := List.all_eq_true.mp g3 p hp
          rw [Bool.and_eq_true] at h5
          have h6 := eq_of_beq h5.2
          have h7 := qfind_ok hm h6
          rw [zix_b h5.1] at h7
          rw [zix_b h5.1, h7, qd_sb]) hI hF (by
          have := hents _ List.mem_cons_self
          rw [qd_sub, qd_sub, qd_cn h0, hμ ρ hg, qd_sb] at this
          omega)
        rw [hpc] at h3
        have est : qDS (fun a => qD ρ (qSj (cG c) l a)) t.2.2.1 = qDS ρ q.1 := by
          have e : q.1 = t.2.2.1.map (fun v => (v.1, qSb (qSj (cG c) l) v.2)) := eq_of_beq g2
          rw [e]
          unfold qDS
          rw [List.map_map]
          refine List.map_congr_left fun v _ => ?_
          show (v.1, qD _ v.2) = (v.1, qD ρ (qSb (qSj (cG c) l) v.2))
          rw [qd_sb]
        rw [est] at h3
        refine sr_mono (fun p hp => ?_) h3
        obtain ⟨p0, hp0, rfl⟩ := List.mem_map.mp hp
        have h5 := List.all_eq_true.mp g1 p0 hp0
        have h6 := eq_of_beq h5
        show sGet (qDL ρ s.2.1) p0.1 = some (qDV _ p0.2)
        rw [ql_get' h6]
        show some (p0.2.1, qD ρ (qSb (qSj (cG c) l) p0.2.2)) = some (p0.2.1, qD _ p0.2.2)
        rw [qd_sb]
      · cases h
    · cases h
  · cases h
def qAll (r : qS → qHs → Option qHs) : List qS → qHs → Option qHs
  | [], hs => some hs
  | _ :: _, [] => none
  | s :: su, h :: hs => match h with
    | [] => (match r s hs with | some hs' => qAll r su hs' | none => none)
    | _ => cond (qEnt s.2.2.2.1 [(-1, 0)] h) (qAll r su hs) none
theorem qall_ok {Q : Option sV → sM → Prop} {S : sSt} {r : qS → qHs → Option qHs} (hr : ∀ s hs hs', r s hs = some hs' → qGS d K J Q M0 S g ρ0 s) : ∀ {su : List qS} {hs hs' : qHs}, qAll r su hs = some hs' → ∀ s ∈ su, qGS d K J Q M0 S g ρ0 s
  | [], _, _, _, s, h => nomatch h
  | _ :: _, [], _, h, _, _ => nomatch h
  | s :: su, a :: hs, hs', h, s', hm => by
    unfold qAll at h
    split at h
    · split at h
      · rename_i hs2 h2
        rcases List.mem_cons.mp hm with rfl | hm
        · exact hr _ _ _ h2
        · exact qall_ok hr h s' hm
      · cases h
    · cases h1 : qEnt s.2.2.2.1 [(-1, 0)] a with
      | false => rw [h1] at h; cases h
      | true =>
        rw [h1, cond_true] at h
        rcases List.mem_cons.mp hm with rfl | hm
        · exact qg_no h1
        · exact qall_ok hr h s' hm
def zMk (pc : Nat) : qHs → Option (Bool × Nat × qHs)
  | [(.negSucc 6, j), (0, p)] :: hs => cond (Nat.beq p pc) (some (false, j, hs)) none
  | [(.negSucc 7, j), (0, p)] :: hs => cond (Nat.beq p pc) (some (true, j, hs)) none
  | _ => none
def zNm (pc : Nat) : qHs → Option (Nat × qHs)
  | [(.negSucc 8, j), (0, p)] :: hs => cond (Nat.beq p pc) (some (j, hs)) none
  | _ => none
def zPn (pc : Nat) : qHs → Option (Nat × Int × qF × qF × qHs)
  | [(.negSucc 9, j), (0, p)] :: [(k, 0)] :: a :: b :: hs => cond (Nat.beq p pc) (some (j, k, a, b, hs)) none
  | _ => none
def qRun (cs : List qCt) (c : qCt) (K g : Nat) (cu : List qCu) (cp : List Nat) (μ : qF) : Nat → Bool → qS → qHs → Option qHs
  | 0, _, _, _ => none
  | f + 1, b, s, hs => match zMk s.1 hs with
    | some m => (match qRT[m.2.1]? with
      | some r => cond m.1 (match (pTs.getD K []).find? (fun e => Nat.beq e.1 s.1) with
          | some e => cond (Nat.blt e.2.2.2 99999) (match qWr r g (cS c) e.2.1 e.2.2.2 s.2.1 s.2.2.1 s.2.2.2.1 s.2.2.2.2.1 s.2.2.2.2.2 m.2.2 with
            | some q => cond (Nat.beq q.1 e.2.2.1) (qRun cs c K g cu cp μ f false (s.1 + e.2.2.1, s.2.1, q.2.1, q.2.2.1, q.2.2.2.1, q.2.2.2.2.1) q.2.2.2.2.2) none
            | none => none) none
          | none => none)
        (match r.2.2.2.1 with
          | [] => (match qRa r g (cS c) s.2.1 s.2.2.1 s.2.2.2.1 s.2.2.2.2.1 s.2.2.2.2.1 s.2.2.2.2.2 m.2.2 with
            | some q => qRun cs c K g cu cp μ f b (s.1, s.2.1, s.2.2.1, q.1, q.2.1, q.2.2.1) q.2.2.2
            | none => none)
          | _ => none)
      | none => none)
    | none => match zNm s.1 hs with
     | some m => (match qTch g s.2.1 [(.negSucc 0, m.1)] s.2.2.1 s.2.2.2.1 s.2.2.2.2.1 s.2.2.2.2.2 with
       | some q => qRun cs c K g cu cp μ f b (s.1, s.2.1, q.1, q.2.1, q.2.2.1, q.2.2.2) m.2
       | none => none)
     | none => match zPn s.1 hs with
      | some m => (match s.2.2.1[m.1]? with
        | some v => cond (qEnt s.2.2.2.1 (qSub v.2 (qCn m.2.1)) m.2.2.1 && qEnt s.2.2.2.1 (qSub (qCn m.2.1) v.2) m.2.2.2.1) (qRun cs c K g cu cp μ f b (s.1, s.2.1, s.2.2.1.set m.1 (v.1, qCn m.2.1), s.2.2.2) m.2.2.2.2) none
        | none => none)
      | none => match cond b false (cp.any (fun p => Nat.beq p s.1)) with
      | true => (match hs with
        | [(j, 0)] :: hs1 => (match cu[j.toNat]? with
          | some t => cond (Nat.beq t.1 s.1) (qJm c g μ t s hs1) none
          | none => none)
        | _ => none)
      | false => match (pTs.getD K []).find? (fun e => Nat.beq e.1 s.1) with
        | some e => cond (Nat.blt e.2.2.2 99999) (match qOne cs c K g e s hs with
          | some r => (match r.1 with
            | [s'] => qRun cs c K g cu cp μ f false s' r.2
            | su => qAll (qRun cs c K g cu cp μ f false) su r.2)
          | none => none) none
        | none => none
theorem qrun_ok (hDd : ∀ ρ : Nat → Int, (∀ a, a < g → ρ a = ρ0 a) → (cD c : Int) + qD ρ (cE c) ≤ (d + 1 : Nat)) (hg1 : 0 < g) (hc1 : 0 < cG c) {cs : List qCt} (hcs : ∀ c ∈ cs, qCokN c d) (hcg : ∀ a, a < cG c → ρ0 a = ρc a) (hle : cG c ≤ g) {cu : List qCu} {cp : List Nat} {μ : qF} {m : Int} (hμ : ∀ ρ : Nat → Int, (∀ a, a < g → ρ a = ρ0 a) → qD ρ μ = m) (ht : ∀ t ∈ cu, qCg d K J c ρc M0 t m) : ∀ (f : Nat) (b : Bool) (s : qS) (hs hs' : qHs), qRun cs c K g cu cp μ f b s hs = some hs' → qGS d K J (qPost c ρc M0) M0 (cS c) g ρ0 s := by
  intro f
  induction f with
  | zero => intro b s hs hs' h; cases h
  | succ f ih =>
    intro b s hs hs' h
    unfold qRun at h
    split at h
    · rename_i m hmk
      split at h
      · rename_i r hj
        have hrk := qrt_ok r (List.mem_of_getElem? hj)
        cases hm1 : m.1 with
        | true =>
          rw [hm1, cond_true] at h
          split at h
          · rename_i e he
            have h1 := List.find?_some he
            have hpc : e.1 = s.1 := Nat.eq_of_beq_eq_true h1
            cases ha : Nat.blt e.2.2.2 99999 with
            | false => rw [ha] at h; cases h
            | true =>
              rw [ha, cond_true] at h
              split at h
              · rename_i q hq
                cases hl : Nat.beq q.1 e.2.2.1 with
                | false => rw [hl] at h; cases h
                | true =>
                  rw [hl, cond_true] at h
                  have k1 := ih _ _ _ _ h
                  have he2 := List.mem_of_find?_eq_some he
                  obtain ⟨pc, i, len, a⟩ := e
                  have hpc : pc = s.1 := hpc
                  subst hpc
                  exact qwr_ok hg1 hrk he2 (zblt ha) hq (Nat.eq_of_beq_eq_true hl) k1
              · cases h
          · cases h
        | false =>
          rw [hm1, cond_false] at h
          split at h
          · rename_i hw
            split at h
            · rename_i q hq
              exact qg_rul hg1 hrk hw hq (ih _ _ _ _ h)
            · cases h
          · cases h
      · cases h
    · split at h
      next m hnm =>
        split at h
        · rename_i q hq
          exact qg_tch hg1 hq (ih _ _ _ _ h)
        · cases h
      split at h
      next m hpn =>
        split at h
        · rename_i v hv
          cases h1 : (qEnt s.2.2.2.1 (qSub v.2 (qCn m.2.1)) m.2.2.1 && qEnt s.2.2.2.1 (qSub (qCn m.2.1) v.2) m.2.2.2.1) with
          | false => rw [h1] at h; cases h
          | true =>
            rw [h1, cond_true] at h
            rw [Bool.and_eq_true] at h1
            have k1 := ih _ _ _ _ h
            intro ρ M hg h0 hf hm hI hF
            have a1 := qd_ent h0 hf h1.1
            have a2 := qd_ent h0 hf h1.2
            rw [qd_sub, qd_cn h0] at a1 a2
            have k2 := k1 ρ M hg h0 hf hm hI hF
            have e : qDS ρ (s.2.2.1.set m.1 (v.1, qCn m.2.1)) = qDS ρ s.2.2.1 := by
              unfold qDS
              rw [List.map_set]
              refine List.ext_getElem? fun j => ?_
              by_cases hj : m.1 = j
              · subst hj
                have hlt : m.1 < (s.2.2.1.map (qDV ρ)).length := by rw [List.length_map]; exact (List.getElem?_eq_some_iff.mp hv).1
                rw [List.getElem?_set_self hlt, List.getElem?_map, hv]
                show some (v.1, qD ρ (qCn m.2.1)) = some (v.1, qD ρ v.2)
                rw [qd_cn h0, show m.2.1 = qD ρ v.2 by omega]
              · rw [List.getElem?_set_ne hj]
            have k3 : sR sLay d K J s.1 (qDL ρ s.2.1) (qDS ρ (s.2.2.1.set m.1 (v.1, qCn m.2.1))) M (qPost c ρc M0) := k2
            rw [e] at k3
            exact k3
        · cases h
      split at h
      · split at h
        · split at h
          · rename_i t hj
            cases h1 : Nat.beq t.1 s.1 with
            | false => rw [h1] at h; cases h
            | true =>
              rw [h1, cond_true] at h
              exact qjm_ok hg1 hc1 hcg hle hμ (ht t (List.mem_of_getElem? hj)) (Nat.eq_of_beq_eq_true h1) h
          · cases h
        · cases h
      · split at h
        · rename_i e he
          have h1 := List.find?_some he
          cases ha : Nat.blt e.2.2.2 99999 with
          | false => rw [ha] at h; cases h
          | true =>
            rw [ha, cond_true] at h
            split at h
            · rename_i r hr
              obtain ⟨su, hs2⟩ := r
              refine qone_ok hDd hg1 hcs hcg hle (Nat.eq_of_beq_eq_true h1) (List.mem_of_find?_eq_some he) (zblt ha) hr ?_
              split at h
              · rename_i s' hsu
                have hsu : su = [s'] := hsu
                subst hsu
                intro t' ht'
                rcases List.mem_cons.mp ht' with rfl | ht'
                · exact ih _ _ _ _ h
                · cases ht'
              · exact qall_ok (fun s hs hs' h => ih _ _ _ _ h) h
            · cases h
        · cases h
def qAg : Nat → List qV → qLv
  | _, [] => []
  | i, v :: vs => (i, v) :: qAg (i + cond (Nat.beq v.1 1) 2 1) vs
theorem qag_ok (ρ : Nat → Int) : ∀ (as : List qV) (i : Nat), sArgs i (qDS ρ as) = qDL ρ (qAg i as)
  | [], _ => rfl
  | v :: vs, i => by
    show (i, qDV ρ v) :: sArgs (i + (if v.1 = 1 then 2 else 1)) (qDS ρ vs) = (i, qDV ρ v) :: qDL ρ (qAg (i + cond (Nat.beq v.1 1) 2 1) vs)
    have e : (if v.1 = 1 then 2 else 1) = cond (Nat.beq v.1 1) 2 1 := by
      cases h : Nat.beq v.1 1 with
      | true => rw [if_pos (Nat.eq_of_beq_eq_true h)]; rfl
      | false => rw [if_neg (Nat.ne_of_beq_eq_false h)]; rfl
    rw [e, qag_ok ρ vs]
theorem qsl_len (ρ : Nat → Int) : ∀ (as : List qV), (lg_sl ((qDS ρ as).map sE)).length = qCat as
  | [] => rfl
  | v :: vs => by
    have ih := qsl_len ρ vs
    unfold lg_sl at ih ⊢
    show (List.flatMap _ (sE (qDV ρ v) :: (qDS ρ vs).map sE)).length = _
    rw [List.flatMap_cons, List.length_append, ih]
    have e : qCat (v :: vs) = cond (Nat.beq v.1 1) 2 1 + qCat vs := by
      unfold qCat
      rw [List.map_cons, List.sum_cons]
    rw [e]
    cases h : Nat.beq v.1 1 with
    | true =>
      have h2 : (sE (qDV ρ v)).category = 2 := by rw [se_cat2]; exact if_pos (Nat.eq_of_beq_eq_true h)
      rw [if_pos h2]; rfl
    | false =>
      have h2 : ¬ (sE (qDV ρ v)).category = 2 := by
        rw [se_cat2]
        show ¬ (if v.1 = 1 then 2 else 1) = 2
        rw [if_neg (Nat.ne_of_beq_eq_false h)]
        decide
      rw [if_neg h2]; rfl
/-- what shows a contract: how long a run may be, the number at the start, what shows that its depth isn't below 0, hints; the cuts, each with what shows that its number isn't below 0, and hints -/
abbrev qCe : Type := (Nat × List Nat) × Int × qF × qHs × List (qCu × qF × qHs)
def qChk (cs : List qCt) (c : qCt) (ce : qCe) : Bool :=
  Nat.blt 0 (cG c) && (Nat.blt 0 (cD c) && (Nat.ble (qCat (cA c)) (pMt (cK c)).2.2.2.1 && ((cM c).all (fun q => Nat.blt q.2.1 1000) && ((qEnt (cP c) (cE c) ce.2.2.1 && qSc (cG c) (cE c)) &&
  ((qRun cs c (cK c) (cG c) (ce.2.2.2.2.map (fun q => q.1)) ce.1.2 (qCn ce.2.1) ce.1.1 true (0, qAg 0 (cA c), [], cP c, cM c, cG c) ce.2.2.2.1 == some []) &&
  ce.2.2.2.2.all (fun q => Nat.ble (cG c) q.1.2.2.2.2.2.1 && (qSc q.1.2.2.2.2.2.1 q.1.2.2.2.2.2.2 && (qEnt q.1.2.2.2.1 q.1.2.2.2.2.2.2 q.2.1 &&
    (qRun cs c (cK c) q.1.2.2.2.2.2.1 (ce.2.2.2.2.map (fun q => q.1)) ce.1.2 q.1.2.2.2.2.2.2 ce.1.1 true (q.1.1, q.1.2.1, q.1.2.2.1, q.1.2.2.2.1, q.1.2.2.2.2.1, q.1.2.2.2.2.2.1) q.2.2 == some [])))))))))
theorem qchk_n {cs : List qCt} {c : qCt} {ce : qCe} (h : qChk cs c ce = true) {d : Nat} (hcs : ∀ c ∈ cs, qCokN c d) : qCokN c (d + 1) := by
  unfold qChk at h
  rw [Bool.and_eq_true, Bool.and_eq_true, Bool.and_eq_true, Bool.and_eq_true, Bool.and_eq_true, Bool.and_eq_true, Bool.and_eq_true] at h
  obtain ⟨h1, h2, h3, h9, ⟨h10, h11⟩, h4, h5⟩ := h
  have hc1 : 0 < cG c := zblt h1
  intro J ρc M0 h0 hP hM hI hDep
  have hrun := eq_of_beq h4
  generalize hcu : ce.2.2.2.2.map (fun q => q.1) = cu at *
  have hcut : ∀ N : Nat, ∀ t ∈ cu, qCg d (cK c) J c ρc M0 t (N : Int) := by
    intro N
    induction N with
    | zero =>
      intro t ht ρ M h0' hg hf hm hI hF hlt
      rw [← hcu] at ht
      obtain ⟨q, hq, rfl⟩ := List.mem_map.mp ht
      have h6 := List.all_eq_true.mp h5 q hq
      rw [Bool.and_eq_true, Bool.and_eq_true, Bool.and_eq_true] at h6
      have := qd_ent h0' hf h6.2.2.1
      exact absurd hlt (by omega)
    | succ N ih =>
      intro t ht ρ M h0' hg hf hm hI hF hlt
      by_cases hN : qD ρ t.2.2.2.2.2.2 < (N : Int)
      · exact ih t ht ρ M h0' hg hf hm hI hF hN
      · have ht' := ht
        rw [← hcu] at ht
        obtain ⟨q, hq, rfl⟩ := List.mem_map.mp ht
        have h6 := List.all_eq_true.mp h5 q hq
        rw [Bool.and_eq_true, Bool.and_eq_true, Bool.and_eq_true] at h6
        obtain ⟨g1, g2, g3, g4⟩ := h6
        have hle := Nat.le_of_ble_eq_true g1
        have hr := eq_of_beq g4
        have hμ : qD ρ q.1.2.2.2.2.2.2 = (N : Int) := by omega
        exact qrun_ok (fun ρ' hρ' => by
          rw [qd_sc (ρ := ρc) (n := cG c) (fun a ha => (hρ' a (by omega)).trans (hg a ha)) h11]
          exact hDep) (by omega) hc1 hcs hg hle (fun ρ' hρ' => (qd_sc hρ' g2).trans hμ) ih _ _ _ _ _ hr ρ M (fun _ _ => rfl) h0' hf hm hI hF
  have hB : ∀ t ∈ cu, qCg d (cK c) J c ρc M0 t ce.2.1 := by
    intro t ht ρ M h0' hg hf hm hI hF hlt
    exact hcut ((qD ρ t.2.2.2.2.2.2).toNat + 1) t ht ρ M h0' hg hf hm hI hF (by omega)
  have hr := qrun_ok (fun ρ' hρ' => by
    rw [qd_sc (ρ := ρc) (n := cG c) hρ' h11]
    exact hDep) hc1 hc1 hcs (fun _ _ => rfl) (Nat.le_refl _) (m := ce.2.1) (fun ρ hρ => qd_cn ((hρ 0 hc1).trans h0) _) hB _ _ _ _ _ hrun ρc M0 (fun _ _ => rfl) h0 hP (fun q hq => by rw [zix_b (List.all_eq_true.mp h9 q hq)]; exact hM q hq) hI (sf_r _ _)
  refine sx_of ?_ ?_
  · rw [qsl_len]
    exact Nat.le_of_ble_eq_true h3
  · rw [qag_ok]
    exact hr
theorem qchk_0 {cs : List qCt} {c : qCt} {ce : qCe} (h : qChk cs c ce = true) : qCokN c 0 := by
  unfold qChk at h
  rw [Bool.and_eq_true, Bool.and_eq_true, Bool.and_eq_true, Bool.and_eq_true, Bool.and_eq_true, Bool.and_eq_true, Bool.and_eq_true] at h
  obtain ⟨h1, h2, h3, h9, ⟨h10, h11⟩, h4, h5⟩ := h
  intro J ρc M0 h0 hP hM hI hDep
  have h6 := qd_ent h0 hP h10
  have h7 : 0 < cD c := zblt h2
  exact absurd hDep (by omega)
theorem qchk_ok {cs : List qCt} {c : qCt} {ce : qCe} (hcs : ∀ c ∈ cs, qCok c) (h : qChk cs c ce = true) : qCok c := by
  intro N
  cases N with
  | zero => exact qchk_0 h
  | succ d => exact qchk_n h (fun c hc => hcs c hc d)
/-- methods that call one another: each is shown over all of them -/
theorem qchk_rec {cs : List qCt} {G : List (qCt × qCe)} (hcs : ∀ c ∈ cs, qCok c) (h : ∀ q ∈ G, qChk (cs ++ G.map (fun q => q.1)) q.1 q.2 = true) : ∀ q ∈ G, qCok q.1 := by
  have key : ∀ N, ∀ q ∈ G, qCokN q.1 N := by
    intro N
    induction N with
    | zero => exact fun q hq => qchk_0 (h q hq)
    | succ d ih =>
      intro q hq
      refine qchk_n (h q hq) (fun c hc => ?_)
      rcases List.mem_append.mp hc with hc | hc
      · exact hcs c hc d
      · obtain ⟨p, hp, rfl⟩ := List.mem_map.mp hc
        exact ih p hp
  exact fun q hq N => key N q hq
end CHK
end
