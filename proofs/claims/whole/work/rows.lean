section
-- ===== PART A: goes FIRST, ahead of the names: the tables' words, and 'selects' of the private methods out of them =====
/-- a private method of a class that the tables say can be made, by its rows of tables_1 -/
def lw_okq (q : MethodName × Nat) : Prop := (q.1.cls ≠ "java/lang/invoke/MethodHandle" ∧ q.1.cls ≠ "java/lang/invoke/VarHandle") ∧ Cond.instantiable q.1.cls q.2 ∈ tables_1 ∧ Cond.privateMethod q.1 ∈ tables_1 ∧ Cond.instanceMethod q.1 ∈ tables_1
theorem lw_p0 : lw_okq (⟨"GiftRing$Custom", "readClause", "(LGiftRing$Tape;III)I"⟩, 2) := ⟨⟨by decide +kernel, by decide +kernel⟩, List.mem_of_getElem? (i := 42) (by decide +kernel), List.mem_of_getElem? (i := 186) (by decide +kernel), List.mem_of_getElem? (i := 187) (by decide +kernel)⟩
theorem lw_p1 : lw_okq (⟨"GiftRing", "isIsland", "(I)Z"⟩, 11) := ⟨⟨by decide +kernel, by decide +kernel⟩, List.mem_of_getElem? (i := 19) (by decide +kernel), List.mem_of_getElem? (i := 261) (by decide +kernel), List.mem_of_getElem? (i := 262) (by decide +kernel)⟩
theorem lw_p2 : lw_okq (⟨"GiftRing", "livingMan", "(I)LGiftRing$Man;"⟩, 11) := ⟨⟨by decide +kernel, by decide +kernel⟩, List.mem_of_getElem? (i := 19) (by decide +kernel), List.mem_of_getElem? (i := 291) (by decide +kernel), List.mem_of_getElem? (i := 292) (by decide +kernel)⟩
theorem lw_p3 : lw_okq (⟨"GiftRing", "anyMan", "(I)LGiftRing$Man;"⟩, 11) := ⟨⟨by decide +kernel, by decide +kernel⟩, List.mem_of_getElem? (i := 19) (by decide +kernel), List.mem_of_getElem? (i := 295) (by decide +kernel), List.mem_of_getElem? (i := 296) (by decide +kernel)⟩
theorem lw_p4 : lw_okq (⟨"GiftRing", "stepsBetween", "(II)I"⟩, 11) := ⟨⟨by decide +kernel, by decide +kernel⟩, List.mem_of_getElem? (i := 19) (by decide +kernel), List.mem_of_getElem? (i := 303) (by decide +kernel), List.mem_of_getElem? (i := 304) (by decide +kernel)⟩
theorem lw_p5 : lw_okq (⟨"GiftRing", "anyTreasure", "(I)LGiftRing$Treasure;"⟩, 11) := ⟨⟨by decide +kernel, by decide +kernel⟩, List.mem_of_getElem? (i := 19) (by decide +kernel), List.mem_of_getElem? (i := 377) (by decide +kernel), List.mem_of_getElem? (i := 378) (by decide +kernel)⟩
theorem lw_p6 : lw_okq (⟨"GiftRing", "isOnWay", "(III)Z"⟩, 11) := ⟨⟨by decide +kernel, by decide +kernel⟩, List.mem_of_getElem? (i := 19) (by decide +kernel), List.mem_of_getElem? (i := 389) (by decide +kernel), List.mem_of_getElem? (i := 390) (by decide +kernel)⟩
theorem lw_p7 : lw_okq (⟨"GiftRing", "settle", "(IIILGiftRing$Treasure;)I"⟩, 11) := ⟨⟨by decide +kernel, by decide +kernel⟩, List.mem_of_getElem? (i := 19) (by decide +kernel), List.mem_of_getElem? (i := 393) (by decide +kernel), List.mem_of_getElem? (i := 394) (by decide +kernel)⟩
theorem lw_p8 : lw_okq (⟨"GiftRing", "passTreasures", "(II)V"⟩, 11) := ⟨⟨by decide +kernel, by decide +kernel⟩, List.mem_of_getElem? (i := 19) (by decide +kernel), List.mem_of_getElem? (i := 506) (by decide +kernel), List.mem_of_getElem? (i := 507) (by decide +kernel)⟩
theorem lw_p9 : lw_okq (⟨"GiftRing", "passPartners", "(II)V"⟩, 11) := ⟨⟨by decide +kernel, by decide +kernel⟩, List.mem_of_getElem? (i := 19) (by decide +kernel), List.mem_of_getElem? (i := 514) (by decide +kernel), List.mem_of_getElem? (i := 515) (by decide +kernel)⟩
theorem lw_p10 : lw_okq (⟨"GiftRing", "hasCome", "(III)Z"⟩, 11) := ⟨⟨by decide +kernel, by decide +kernel⟩, List.mem_of_getElem? (i := 19) (by decide +kernel), List.mem_of_getElem? (i := 530) (by decide +kernel), List.mem_of_getElem? (i := 531) (by decide +kernel)⟩
theorem lw_p11 : lw_okq (⟨"GiftRing$Matching", "weighAll", "()V"⟩, 9) := ⟨⟨by decide +kernel, by decide +kernel⟩, List.mem_of_getElem? (i := 85) (by decide +kernel), List.mem_of_getElem? (i := 564) (by decide +kernel), List.mem_of_getElem? (i := 565) (by decide +kernel)⟩
theorem lw_p12 : lw_okq (⟨"GiftRing$Matching", "weigh", "(II)I"⟩, 9) := ⟨⟨by decide +kernel, by decide +kernel⟩, List.mem_of_getElem? (i := 85) (by decide +kernel), List.mem_of_getElem? (i := 571) (by decide +kernel), List.mem_of_getElem? (i := 572) (by decide +kernel)⟩
theorem lw_p13 : lw_okq (⟨"GiftRing$Matching", "canClose", "(III)Z"⟩, 9) := ⟨⟨by decide +kernel, by decide +kernel⟩, List.mem_of_getElem? (i := 85) (by decide +kernel), List.mem_of_getElem? (i := 575) (by decide +kernel), List.mem_of_getElem? (i := 576) (by decide +kernel)⟩
theorem lw_p14 : lw_okq (⟨"GiftRing$Matching", "weightWith", "(III)I"⟩, 9) := ⟨⟨by decide +kernel, by decide +kernel⟩, List.mem_of_getElem? (i := 85) (by decide +kernel), List.mem_of_getElem? (i := 579) (by decide +kernel), List.mem_of_getElem? (i := 580) (by decide +kernel)⟩
theorem lw_p15 : lw_okq (⟨"GiftRing$Matching", "choiceFor", "(II)I"⟩, 9) := ⟨⟨by decide +kernel, by decide +kernel⟩, List.mem_of_getElem? (i := 85) (by decide +kernel), List.mem_of_getElem? (i := 586) (by decide +kernel), List.mem_of_getElem? (i := 587) (by decide +kernel)⟩
def lw_privs_1 : List (MethodName × Nat) := [(⟨"GiftRing$Custom", "readClause", "(LGiftRing$Tape;III)I"⟩, 2), (⟨"GiftRing", "isIsland", "(I)Z"⟩, 11), (⟨"GiftRing", "livingMan", "(I)LGiftRing$Man;"⟩, 11), (⟨"GiftRing", "anyMan", "(I)LGiftRing$Man;"⟩, 11), (⟨"GiftRing", "stepsBetween", "(II)I"⟩, 11), (⟨"GiftRing", "anyTreasure", "(I)LGiftRing$Treasure;"⟩, 11), (⟨"GiftRing", "isOnWay", "(III)Z"⟩, 11), (⟨"GiftRing", "settle", "(IIILGiftRing$Treasure;)I"⟩, 11), (⟨"GiftRing", "passTreasures", "(II)V"⟩, 11), (⟨"GiftRing", "passPartners", "(II)V"⟩, 11), (⟨"GiftRing", "hasCome", "(III)Z"⟩, 11), (⟨"GiftRing$Matching", "weighAll", "()V"⟩, 9), (⟨"GiftRing$Matching", "weigh", "(II)I"⟩, 9), (⟨"GiftRing$Matching", "canClose", "(III)Z"⟩, 9), (⟨"GiftRing$Matching", "weightWith", "(III)I"⟩, 9), (⟨"GiftRing$Matching", "choiceFor", "(II)I"⟩, 9)]
theorem lw_r1 : ∀ q ∈ lw_privs_1, lw_okq q := List.forall_mem_cons.mpr ⟨lw_p0, List.forall_mem_cons.mpr ⟨lw_p1, List.forall_mem_cons.mpr ⟨lw_p2, List.forall_mem_cons.mpr ⟨lw_p3, List.forall_mem_cons.mpr ⟨lw_p4, List.forall_mem_cons.mpr ⟨lw_p5, List.forall_mem_cons.mpr ⟨lw_p6, List.forall_mem_cons.mpr ⟨lw_p7, List.forall_mem_cons.mpr ⟨lw_p8, List.forall_mem_cons.mpr ⟨lw_p9, List.forall_mem_cons.mpr ⟨lw_p10, List.forall_mem_cons.mpr ⟨lw_p11, List.forall_mem_cons.mpr ⟨lw_p12, List.forall_mem_cons.mpr ⟨lw_p13, List.forall_mem_cons.mpr ⟨lw_p14, List.forall_mem_cons.mpr ⟨lw_p15, fun _ h => absurd h List.not_mem_nil⟩⟩⟩⟩⟩⟩⟩⟩⟩⟩⟩⟩⟩⟩⟩⟩
theorem lw_p16 : lw_okq (⟨"GiftRing", "measureGiftsTo", "(II)V"⟩, 11) := ⟨⟨by decide +kernel, by decide +kernel⟩, List.mem_of_getElem? (i := 19) (by decide +kernel), List.mem_of_getElem? (i := 598) (by decide +kernel), List.mem_of_getElem? (i := 599) (by decide +kernel)⟩
theorem lw_p17 : lw_okq (⟨"GiftRing", "firstAt", "(III)I"⟩, 11) := ⟨⟨by decide +kernel, by decide +kernel⟩, List.mem_of_getElem? (i := 19) (by decide +kernel), List.mem_of_getElem? (i := 603) (by decide +kernel), List.mem_of_getElem? (i := 604) (by decide +kernel)⟩
theorem lw_p18 : lw_okq (⟨"GiftRing", "nextOnWay", "(II)I"⟩, 11) := ⟨⟨by decide +kernel, by decide +kernel⟩, List.mem_of_getElem? (i := 19) (by decide +kernel), List.mem_of_getElem? (i := 612) (by decide +kernel), List.mem_of_getElem? (i := 613) (by decide +kernel)⟩
theorem lw_p19 : lw_okq (⟨"GiftRing", "treasuresHeldBy", "(I)I"⟩, 11) := ⟨⟨by decide +kernel, by decide +kernel⟩, List.mem_of_getElem? (i := 19) (by decide +kernel), List.mem_of_getElem? (i := 620) (by decide +kernel), List.mem_of_getElem? (i := 621) (by decide +kernel)⟩
theorem lw_p20 : lw_okq (⟨"GiftRing", "livingMen", "()I"⟩, 11) := ⟨⟨by decide +kernel, by decide +kernel⟩, List.mem_of_getElem? (i := 19) (by decide +kernel), List.mem_of_getElem? (i := 659) (by decide +kernel), List.mem_of_getElem? (i := 660) (by decide +kernel)⟩
theorem lw_p21 : lw_okq (⟨"GiftRing", "lostTreasures", "()I"⟩, 11) := ⟨⟨by decide +kernel, by decide +kernel⟩, List.mem_of_getElem? (i := 19) (by decide +kernel), List.mem_of_getElem? (i := 663) (by decide +kernel), List.mem_of_getElem? (i := 664) (by decide +kernel)⟩
theorem lw_p22 : lw_okq (⟨"GiftRingModel", "types", "(I)V"⟩, 42) := ⟨⟨by decide +kernel, by decide +kernel⟩, List.mem_of_getElem? (i := 671) (by decide +kernel), List.mem_of_getElem? (i := 812) (by decide +kernel), List.mem_of_getElem? (i := 813) (by decide +kernel)⟩
theorem lw_p23 : lw_okq (⟨"GiftRingModel", "parse", "(I)I"⟩, 42) := ⟨⟨by decide +kernel, by decide +kernel⟩, List.mem_of_getElem? (i := 671) (by decide +kernel), List.mem_of_getElem? (i := 820) (by decide +kernel), List.mem_of_getElem? (i := 821) (by decide +kernel)⟩
theorem lw_p24 : lw_okq (⟨"GiftRingModel", "isDigit", "(II)Z"⟩, 42) := ⟨⟨by decide +kernel, by decide +kernel⟩, List.mem_of_getElem? (i := 671) (by decide +kernel), List.mem_of_getElem? (i := 827) (by decide +kernel), List.mem_of_getElem? (i := 828) (by decide +kernel)⟩
theorem lw_p25 : lw_okq (⟨"GiftRingModel", "lives", "(I)Z"⟩, 42) := ⟨⟨by decide +kernel, by decide +kernel⟩, List.mem_of_getElem? (i := 671) (by decide +kernel), List.mem_of_getElem? (i := 846) (by decide +kernel), List.mem_of_getElem? (i := 847) (by decide +kernel)⟩
theorem lw_p26 : lw_okq (⟨"GiftRingModel", "isMan", "(I)Z"⟩, 42) := ⟨⟨by decide +kernel, by decide +kernel⟩, List.mem_of_getElem? (i := 671) (by decide +kernel), List.mem_of_getElem? (i := 850) (by decide +kernel), List.mem_of_getElem? (i := 851) (by decide +kernel)⟩
theorem lw_p27 : lw_okq (⟨"GiftRingModel", "nextOf", "(I)I"⟩, 42) := ⟨⟨by decide +kernel, by decide +kernel⟩, List.mem_of_getElem? (i := 671) (by decide +kernel), List.mem_of_getElem? (i := 854) (by decide +kernel), List.mem_of_getElem? (i := 855) (by decide +kernel)⟩
theorem lw_p28 : lw_okq (⟨"GiftRingModel", "comesTo", "(II)V"⟩, 42) := ⟨⟨by decide +kernel, by decide +kernel⟩, List.mem_of_getElem? (i := 671) (by decide +kernel), List.mem_of_getElem? (i := 862) (by decide +kernel), List.mem_of_getElem? (i := 863) (by decide +kernel)⟩
theorem lw_p29 : lw_okq (⟨"GiftRingModel", "tellsNews", "(III)V"⟩, 42) := ⟨⟨by decide +kernel, by decide +kernel⟩, List.mem_of_getElem? (i := 671) (by decide +kernel), List.mem_of_getElem? (i := 866) (by decide +kernel), List.mem_of_getElem? (i := 867) (by decide +kernel)⟩
theorem lw_p30 : lw_okq (⟨"GiftRingModel", "isTreasure", "(I)Z"⟩, 42) := ⟨⟨by decide +kernel, by decide +kernel⟩, List.mem_of_getElem? (i := 671) (by decide +kernel), List.mem_of_getElem? (i := 874) (by decide +kernel), List.mem_of_getElem? (i := 875) (by decide +kernel)⟩
theorem lw_p31 : lw_okq (⟨"GiftRingModel", "apart", "(II)I"⟩, 42) := ⟨⟨by decide +kernel, by decide +kernel⟩, List.mem_of_getElem? (i := 671) (by decide +kernel), List.mem_of_getElem? (i := 878) (by decide +kernel), List.mem_of_getElem? (i := 879) (by decide +kernel)⟩
def lw_privs_2 : List (MethodName × Nat) := [(⟨"GiftRing", "measureGiftsTo", "(II)V"⟩, 11), (⟨"GiftRing", "firstAt", "(III)I"⟩, 11), (⟨"GiftRing", "nextOnWay", "(II)I"⟩, 11), (⟨"GiftRing", "treasuresHeldBy", "(I)I"⟩, 11), (⟨"GiftRing", "livingMen", "()I"⟩, 11), (⟨"GiftRing", "lostTreasures", "()I"⟩, 11), (⟨"GiftRingModel", "types", "(I)V"⟩, 42), (⟨"GiftRingModel", "parse", "(I)I"⟩, 42), (⟨"GiftRingModel", "isDigit", "(II)Z"⟩, 42), (⟨"GiftRingModel", "lives", "(I)Z"⟩, 42), (⟨"GiftRingModel", "isMan", "(I)Z"⟩, 42), (⟨"GiftRingModel", "nextOf", "(I)I"⟩, 42), (⟨"GiftRingModel", "comesTo", "(II)V"⟩, 42), (⟨"GiftRingModel", "tellsNews", "(III)V"⟩, 42), (⟨"GiftRingModel", "isTreasure", "(I)Z"⟩, 42), (⟨"GiftRingModel", "apart", "(II)I"⟩, 42)]
theorem lw_r2 : ∀ q ∈ lw_privs_2, lw_okq q := List.forall_mem_cons.mpr ⟨lw_p16, List.forall_mem_cons.mpr ⟨lw_p17, List.forall_mem_cons.mpr ⟨lw_p18, List.forall_mem_cons.mpr ⟨lw_p19, List.forall_mem_cons.mpr ⟨lw_p20, List.forall_mem_cons.mpr ⟨lw_p21, List.forall_mem_cons.mpr ⟨lw_p22, List.forall_mem_cons.mpr ⟨lw_p23, List.forall_mem_cons.mpr ⟨lw_p24, List.forall_mem_cons.mpr ⟨lw_p25, List.forall_mem_cons.mpr ⟨lw_p26, List.forall_mem_cons.mpr ⟨lw_p27, List.forall_mem_cons.mpr ⟨lw_p28, List.forall_mem_cons.mpr ⟨lw_p29, List.forall_mem_cons.mpr ⟨lw_p30, List.forall_mem_cons.mpr ⟨lw_p31, fun _ h => absurd h List.not_mem_nil⟩⟩⟩⟩⟩⟩⟩⟩⟩⟩⟩⟩⟩⟩⟩⟩
theorem lw_p32 : lw_okq (⟨"GiftRingModel", "goesRound", "(III)Z"⟩, 42) := ⟨⟨by decide +kernel, by decide +kernel⟩, List.mem_of_getElem? (i := 671) (by decide +kernel), List.mem_of_getElem? (i := 890) (by decide +kernel), List.mem_of_getElem? (i := 891) (by decide +kernel)⟩
theorem lw_p33 : lw_okq (⟨"GiftRingModel", "isOther", "(IIII)Z"⟩, 42) := ⟨⟨by decide +kernel, by decide +kernel⟩, List.mem_of_getElem? (i := 671) (by decide +kernel), List.mem_of_getElem? (i := 894) (by decide +kernel), List.mem_of_getElem? (i := 895) (by decide +kernel)⟩
theorem lw_p34 : lw_okq (⟨"GiftRingModel", "isOpen", "(I)Z"⟩, 42) := ⟨⟨by decide +kernel, by decide +kernel⟩, List.mem_of_getElem? (i := 671) (by decide +kernel), List.mem_of_getElem? (i := 898) (by decide +kernel), List.mem_of_getElem? (i := 899) (by decide +kernel)⟩
theorem lw_p35 : lw_okq (⟨"GiftRingModel", "quarrels", "(II)Z"⟩, 42) := ⟨⟨by decide +kernel, by decide +kernel⟩, List.mem_of_getElem? (i := 671) (by decide +kernel), List.mem_of_getElem? (i := 902) (by decide +kernel), List.mem_of_getElem? (i := 903) (by decide +kernel)⟩
theorem lw_p36 : lw_okq (⟨"GiftRingModel", "isLate", "(I)Z"⟩, 42) := ⟨⟨by decide +kernel, by decide +kernel⟩, List.mem_of_getElem? (i := 671) (by decide +kernel), List.mem_of_getElem? (i := 906) (by decide +kernel), List.mem_of_getElem? (i := 907) (by decide +kernel)⟩
theorem lw_p37 : lw_okq (⟨"GiftRingModel", "finds", "(I)V"⟩, 42) := ⟨⟨by decide +kernel, by decide +kernel⟩, List.mem_of_getElem? (i := 671) (by decide +kernel), List.mem_of_getElem? (i := 926) (by decide +kernel), List.mem_of_getElem? (i := 927) (by decide +kernel)⟩
theorem lw_p38 : lw_okq (⟨"GiftRingModel", "isLess", "()Z"⟩, 42) := ⟨⟨by decide +kernel, by decide +kernel⟩, List.mem_of_getElem? (i := 671) (by decide +kernel), List.mem_of_getElem? (i := 930) (by decide +kernel), List.mem_of_getElem? (i := 931) (by decide +kernel)⟩
theorem lw_p39 : lw_okq (⟨"GiftRingModel", "canBeAll", "()Z"⟩, 42) := ⟨⟨by decide +kernel, by decide +kernel⟩, List.mem_of_getElem? (i := 671) (by decide +kernel), List.mem_of_getElem? (i := 934) (by decide +kernel), List.mem_of_getElem? (i := 935) (by decide +kernel)⟩
theorem lw_p40 : lw_okq (⟨"GiftRingModel", "fars", "(II)V"⟩, 42) := ⟨⟨by decide +kernel, by decide +kernel⟩, List.mem_of_getElem? (i := 671) (by decide +kernel), List.mem_of_getElem? (i := 946) (by decide +kernel), List.mem_of_getElem? (i := 947) (by decide +kernel)⟩
def lw_privs_3 : List (MethodName × Nat) := [(⟨"GiftRingModel", "goesRound", "(III)Z"⟩, 42), (⟨"GiftRingModel", "isOther", "(IIII)Z"⟩, 42), (⟨"GiftRingModel", "isOpen", "(I)Z"⟩, 42), (⟨"GiftRingModel", "quarrels", "(II)Z"⟩, 42), (⟨"GiftRingModel", "isLate", "(I)Z"⟩, 42), (⟨"GiftRingModel", "finds", "(I)V"⟩, 42), (⟨"GiftRingModel", "isLess", "()Z"⟩, 42), (⟨"GiftRingModel", "canBeAll", "()Z"⟩, 42), (⟨"GiftRingModel", "fars", "(II)V"⟩, 42)]
theorem lw_r3 : ∀ q ∈ lw_privs_3, lw_okq q := List.forall_mem_cons.mpr ⟨lw_p32, List.forall_mem_cons.mpr ⟨lw_p33, List.forall_mem_cons.mpr ⟨lw_p34, List.forall_mem_cons.mpr ⟨lw_p35, List.forall_mem_cons.mpr ⟨lw_p36, List.forall_mem_cons.mpr ⟨lw_p37, List.forall_mem_cons.mpr ⟨lw_p38, List.forall_mem_cons.mpr ⟨lw_p39, List.forall_mem_cons.mpr ⟨lw_p40, fun _ h => absurd h List.not_mem_nil⟩⟩⟩⟩⟩⟩⟩⟩⟩
def lw_privs : List (MethodName × Nat) := lw_privs_1 ++ (lw_privs_2 ++ (lw_privs_3))
def lw_tbl : List Cond := k2_sels lw_privs ++ tables_1
theorem lw_privs_ok : ∀ q ∈ lw_privs, lw_okq q := by
  show ∀ q ∈ lw_privs_1 ++ (lw_privs_2 ++ (lw_privs_3)), lw_okq q
  exact List.forall_mem_append.mpr ⟨lw_r1, List.forall_mem_append.mpr ⟨lw_r2, lw_r3⟩⟩
end
section
def RX0 : String := "GiftRing$Custom"
def TX0 : u_T := fun k => match k with
  | 0 => ("GiftRing$Custom", "terms", "[I", true)
  | _ => ("GiftRing$Custom", "draft", "[I", true)
def tyX0 : Nat → FieldType := fun k => match k with
  | 0 => .array .int
  | _ => .array .int
abbrev wsX00 : List Cond := u_ws RX0 TX0 2
theorem nmX0 : ∀ a, a < 2 → ∀ b, b < 2 → a ≠ b → (TX0 a).2.1 ≠ (TX0 b).2.1 := by decide +kernel
theorem tyX0_ok : ∀ k, k < 2 → parseFieldDescriptor (TX0 k).2.2.1 = some (tyX0 k) := by decide +kernel
abbrev cX0_init : ByteArray := prog_2_method_1_code
def yX0_init : MethodName := ⟨RX0, "<init>", "()V"⟩
abbrev cX0_term : ByteArray := prog_2_method_2_code
def yX0_term : MethodName := ⟨RX0, "term", "(I)I"⟩
abbrev cX0_needFor : ByteArray := prog_2_method_3_code
def yX0_needFor : MethodName := ⟨RX0, "needFor", "(I)I"⟩
abbrev cX0_seasonsTillDue : ByteArray := prog_2_method_4_code
def yX0_seasonsTillDue : MethodName := ⟨RX0, "seasonsTillDue", "()I"⟩
abbrev cX0_seasonsWon : ByteArray := prog_2_method_5_code
def yX0_seasonsWon : MethodName := ⟨RX0, "seasonsWon", "()I"⟩
abbrev cX0_seasonsToHold : ByteArray := prog_2_method_6_code
def yX0_seasonsToHold : MethodName := ⟨RX0, "seasonsToHold", "()I"⟩
abbrev cX0_read : ByteArray := prog_2_method_7_code
def yX0_read : MethodName := ⟨RX0, "read", "(LGiftRing$Tape;I)I"⟩
abbrev cX0_readClause : ByteArray := prog_2_method_8_code
def yX0_readClause : MethodName := ⟨RX0, "readClause", "(LGiftRing$Tape;III)I"⟩
abbrev cX0_faultAt : ByteArray := prog_2_method_9_code
def yX0_faultAt : MethodName := ⟨RX0, "faultAt", "(II)I"⟩
abbrev cX0_termOf : ByteArray := prog_2_method_10_code
def yX0_termOf : MethodName := ⟨RX0, "termOf", "(I)I"⟩
abbrev cX0_digitsFrom : ByteArray := prog_2_method_11_code
def yX0_digitsFrom : MethodName := ⟨RX0, "digitsFrom", "(LGiftRing$Tape;II)I"⟩
abbrev cX0_isDigit : ByteArray := prog_2_method_12_code
def yX0_isDigit : MethodName := ⟨RX0, "isDigit", "(I)Z"⟩
abbrev cX0_numberAt : ByteArray := prog_2_method_13_code
def yX0_numberAt : MethodName := ⟨RX0, "numberAt", "(LGiftRing$Tape;III)I"⟩
def RX1 : String := "GiftRing$Debt"
def TX1 : u_T := fun k => match k with
  | 0 => ("GiftRing$Debt", "debtor", "I", false)
  | 1 => ("GiftRing$Debt", "creditor", "I", false)
  | 2 => ("GiftRing$Debt", "opener", "I", true)
  | 3 => ("GiftRing$Debt", "kind", "I", true)
  | 4 => ("GiftRing$Debt", "need", "I", false)
  | 5 => ("GiftRing$Debt", "due", "I", false)
  | 6 => ("GiftRing$Debt", "closer", "I", false)
  | _ => ("GiftRing$Debt", "timeWon", "Z", false)
def tyX1 : Nat → FieldType := fun k => match k with
  | 0 => .int
  | 1 => .int
  | 2 => .int
  | 3 => .int
  | 4 => .int
  | 5 => .int
  | 6 => .int
  | _ => .boolean
abbrev wsX10 : List Cond := u_ws RX1 TX1 8
theorem nmX1 : ∀ a, a < 8 → ∀ b, b < 8 → a ≠ b → (TX1 a).2.1 ≠ (TX1 b).2.1 := by decide +kernel
theorem tyX1_ok : ∀ k, k < 8 → parseFieldDescriptor (TX1 k).2.2.1 = some (tyX1 k) := by decide +kernel
abbrev cX1_init : ByteArray := prog_3_method_1_code
def yX1_init : MethodName := ⟨RX1, "<init>", "(IIII)V"⟩
abbrev cX1_isOpen : ByteArray := prog_3_method_2_code
def yX1_isOpen : MethodName := ⟨RX1, "isOpen", "()Z"⟩
abbrev cX1_isLateIn : ByteArray := prog_3_method_3_code
def yX1_isLateIn : MethodName := ⟨RX1, "isLateIn", "(I)Z"⟩
abbrev cX1_stateIn : ByteArray := prog_3_method_4_code
def yX1_stateIn : MethodName := ⟨RX1, "stateIn", "(I)I"⟩
abbrev cX1_isBetween : ByteArray := prog_3_method_5_code
def yX1_isBetween : MethodName := ⟨RX1, "isBetween", "(II)Z"⟩
abbrev cX1_winTime : ByteArray := prog_3_method_6_code
def yX1_winTime : MethodName := ⟨RX1, "winTime", "(I)V"⟩
def RX2 : String := "GiftRing$Debts"
def TX2 : u_T := fun k => match k with
  | 0 => ("GiftRing$Debts", "all", "[LGiftRing$Debt;", true)
  | _ => ("GiftRing$Debts", "size", "I", false)
def tyX2 : Nat → FieldType := fun k => match k with
  | 0 => .array (.object "GiftRing$Debt")
  | _ => .int
abbrev wsX20 : List Cond := u_ws RX2 TX2 2
theorem nmX2 : ∀ a, a < 2 → ∀ b, b < 2 → a ≠ b → (TX2 a).2.1 ≠ (TX2 b).2.1 := by decide +kernel
theorem tyX2_ok : ∀ k, k < 2 → parseFieldDescriptor (TX2 k).2.2.1 = some (tyX2 k) := by decide +kernel
abbrev cX2_init : ByteArray := prog_4_method_1_code
def yX2_init : MethodName := ⟨RX2, "<init>", "()V"⟩
abbrev cX2_isFull : ByteArray := prog_4_method_2_code
def yX2_isFull : MethodName := ⟨RX2, "isFull", "()Z"⟩
abbrev cX2_append : ByteArray := prog_4_method_3_code
def yX2_append : MethodName := ⟨RX2, "append", "(LGiftRing$Debt;)V"⟩
abbrev cX2_greatestWithin : ByteArray := prog_4_method_4_code
def yX2_greatestWithin : MethodName := ⟨RX2, "greatestWithin", "(IIII)LGiftRing$Debt;"⟩
abbrev cX2_firstOpen : ByteArray := prog_4_method_5_code
def yX2_firstOpen : MethodName := ⟨RX2, "firstOpen", "(III)LGiftRing$Debt;"⟩
abbrev cX2_isOpenFor : ByteArray := prog_4_method_6_code
def yX2_isOpenFor : MethodName := ⟨RX2, "isOpenFor", "(LGiftRing$Debt;III)Z"⟩
abbrev cX2_haveQuarrel : ByteArray := prog_4_method_7_code
def yX2_haveQuarrel : MethodName := ⟨RX2, "haveQuarrel", "(III)Z"⟩
abbrev cX2_pass : ByteArray := prog_4_method_8_code
def yX2_pass : MethodName := ⟨RX2, "pass", "(II)V"⟩
abbrev cX2_openOnes : ByteArray := prog_4_method_9_code
def yX2_openOnes : MethodName := ⟨RX2, "openOnes", "(II)I"⟩
abbrev cX2_lateOnesOf : ByteArray := prog_4_method_10_code
def yX2_lateOnesOf : MethodName := ⟨RX2, "lateOnesOf", "(II)I"⟩
def RX3 : String := "GiftRing$Man"
def TX3 : u_T := fun k => match k with
  | 0 => ("GiftRing$Man", "island", "I", true)
  | 1 => ("GiftRing$Man", "living", "Z", false)
  | 2 => ("GiftRing$Man", "fame", "I", false)
  | _ => ("GiftRing$Man", "partnerBits", "I", false)
def tyX3 : Nat → FieldType := fun k => match k with
  | 0 => .int
  | 1 => .boolean
  | 2 => .int
  | _ => .int
abbrev wsX30 : List Cond := u_ws RX3 TX3 4
theorem nmX3 : ∀ a, a < 4 → ∀ b, b < 4 → a ≠ b → (TX3 a).2.1 ≠ (TX3 b).2.1 := by decide +kernel
theorem tyX3_ok : ∀ k, k < 4 → parseFieldDescriptor (TX3 k).2.2.1 = some (tyX3 k) := by decide +kernel
abbrev cX3_init : ByteArray := prog_5_method_1_code
def yX3_init : MethodName := ⟨RX3, "<init>", "(I)V"⟩
abbrev cX3_isPartnerOf : ByteArray := prog_5_method_2_code
def yX3_isPartnerOf : MethodName := ⟨RX3, "isPartnerOf", "(I)Z"⟩
abbrev cX3_addPartner : ByteArray := prog_5_method_3_code
def yX3_addPartner : MethodName := ⟨RX3, "addPartner", "(I)V"⟩
abbrev cX3_dropPartner : ByteArray := prog_5_method_4_code
def yX3_dropPartner : MethodName := ⟨RX3, "dropPartner", "(I)V"⟩
def RX4 : String := "GiftRing$Matching"
def TX4 : u_T := fun k => match k with
  | 0 => ("GiftRing$Matching", "numbers", "[I", true)
  | 1 => ("GiftRing$Matching", "kinds", "[I", true)
  | 2 => ("GiftRing$Matching", "worths", "[I", true)
  | 3 => ("GiftRing$Matching", "chosenTreasures", "I", false)
  | 4 => ("GiftRing$Matching", "debtKinds", "[I", true)
  | 5 => ("GiftRing$Matching", "needs", "[I", true)
  | 6 => ("GiftRing$Matching", "debtCount", "I", false)
  | 7 => ("GiftRing$Matching", "best", "[[I", true)
  | _ => ("GiftRing$Matching", "row", "[I", true)
def tyX4 : Nat → FieldType := fun k => match k with
  | 0 => .array .int
  | 1 => .array .int
  | 2 => .array .int
  | 3 => .int
  | 4 => .array .int
  | 5 => .array .int
  | 6 => .int
  | 7 => .array (.array .int)
  | _ => .array .int
abbrev wsX40 : List Cond := u_ws RX4 TX4 9
theorem nmX4 : ∀ a, a < 9 → ∀ b, b < 9 → a ≠ b → (TX4 a).2.1 ≠ (TX4 b).2.1 := by decide +kernel
theorem tyX4_ok : ∀ k, k < 9 → parseFieldDescriptor (TX4 k).2.2.1 = some (tyX4 k) := by decide +kernel
abbrev cX4_init : ByteArray := prog_6_method_1_code
def yX4_init : MethodName := ⟨RX4, "<init>", "()V"⟩
abbrev cX4_clear : ByteArray := prog_6_method_2_code
def yX4_clear : MethodName := ⟨RX4, "clear", "()V"⟩
abbrev cX4_addTreasure : ByteArray := prog_6_method_3_code
def yX4_addTreasure : MethodName := ⟨RX4, "addTreasure", "(ILGiftRing$Treasure;)V"⟩
abbrev cX4_addDebt : ByteArray := prog_6_method_4_code
def yX4_addDebt : MethodName := ⟨RX4, "addDebt", "(LGiftRing$Debt;)V"⟩
abbrev cX4_solve : ByteArray := prog_6_method_5_code
def yX4_solve : MethodName := ⟨RX4, "solve", "()I"⟩
abbrev cX4_weighAll : ByteArray := prog_6_method_6_code
def yX4_weighAll : MethodName := ⟨RX4, "weighAll", "()V"⟩
abbrev cX4_weigh : ByteArray := prog_6_method_7_code
def yX4_weigh : MethodName := ⟨RX4, "weigh", "(II)I"⟩
abbrev cX4_canClose : ByteArray := prog_6_method_8_code
def yX4_canClose : MethodName := ⟨RX4, "canClose", "(III)Z"⟩
abbrev cX4_weightWith : ByteArray := prog_6_method_9_code
def yX4_weightWith : MethodName := ⟨RX4, "weightWith", "(III)I"⟩
abbrev cX4_choiceFor : ByteArray := prog_6_method_10_code
def yX4_choiceFor : MethodName := ⟨RX4, "choiceFor", "(II)I"⟩
def RX5 : String := "GiftRing$Tape"
def TX5 : u_T := fun k => match k with
  | 0 => ("GiftRing$Tape", "bytes", "[I", true)
  | _ => ("GiftRing$Tape", "size", "I", false)
def tyX5 : Nat → FieldType := fun k => match k with
  | 0 => .array .int
  | _ => .int
abbrev wsX50 : List Cond := u_ws RX5 TX5 2
theorem nmX5 : ∀ a, a < 2 → ∀ b, b < 2 → a ≠ b → (TX5 a).2.1 ≠ (TX5 b).2.1 := by decide +kernel
theorem tyX5_ok : ∀ k, k < 2 → parseFieldDescriptor (TX5 k).2.2.1 = some (tyX5 k) := by decide +kernel
abbrev cX5_init : ByteArray := prog_7_method_1_code
def yX5_init : MethodName := ⟨RX5, "<init>", "()V"⟩
abbrev cX5_append : ByteArray := prog_7_method_2_code
def yX5_append : MethodName := ⟨RX5, "append", "(I)V"⟩
abbrev cX5_byteAt : ByteArray := prog_7_method_3_code
def yX5_byteAt : MethodName := ⟨RX5, "byteAt", "(II)I"⟩
def RX6 : String := "GiftRing$Treasure"
def TX6 : u_T := fun k => match k with
  | 0 => ("GiftRing$Treasure", "kind", "I", true)
  | 1 => ("GiftRing$Treasure", "worth", "I", true)
  | 2 => ("GiftRing$Treasure", "holder", "I", false)
  | 3 => ("GiftRing$Treasure", "cameIn", "I", false)
  | 4 => ("GiftRing$Treasure", "givenIn", "I", false)
  | 5 => ("GiftRing$Treasure", "lost", "Z", false)
  | 6 => ("GiftRing$Treasure", "lostIn", "I", false)
  | 7 => ("GiftRing$Treasure", "heldBy", "[I", true)
  | 8 => ("GiftRing$Treasure", "heldFrom", "[I", true)
  | _ => ("GiftRing$Treasure", "holdings", "I", false)
def tyX6 : Nat → FieldType := fun k => match k with
  | 0 => .int
  | 1 => .int
  | 2 => .int
  | 3 => .int
  | 4 => .int
  | 5 => .boolean
  | 6 => .int
  | 7 => .array .int
  | 8 => .array .int
  | _ => .int
abbrev wsX60 : List Cond := u_ws RX6 TX6 10
theorem nmX6 : ∀ a, a < 10 → ∀ b, b < 10 → a ≠ b → (TX6 a).2.1 ≠ (TX6 b).2.1 := by decide +kernel
theorem tyX6_ok : ∀ k, k < 10 → parseFieldDescriptor (TX6 k).2.2.1 = some (tyX6 k) := by decide +kernel
abbrev cX6_init : ByteArray := prog_8_method_1_code
def yX6_init : MethodName := ⟨RX6, "<init>", "(II)V"⟩
abbrev cX6_comeTo : ByteArray := prog_8_method_2_code
def yX6_comeTo : MethodName := ⟨RX6, "comeTo", "(II)V"⟩
abbrev cX6_isHeldBy : ByteArray := prog_8_method_3_code
def yX6_isHeldBy : MethodName := ⟨RX6, "isHeldBy", "(I)Z"⟩
abbrev cX6_canBeGivenIn : ByteArray := prog_8_method_4_code
def yX6_canBeGivenIn : MethodName := ⟨RX6, "canBeGivenIn", "(I)Z"⟩
abbrev cX6_holdersKept : ByteArray := prog_8_method_5_code
def yX6_holdersKept : MethodName := ⟨RX6, "holdersKept", "()I"⟩
def RX7 : String := "GiftRing"
def TX7 : u_T := fun k => match k with
  | 0 => ("GiftRing", "tape", "LGiftRing$Tape;", true)
  | 1 => ("GiftRing", "customs", "LGiftRing$Custom;", true)
  | 2 => ("GiftRing", "men", "[LGiftRing$Man;", true)
  | 3 => ("GiftRing", "treasures", "[LGiftRing$Treasure;", true)
  | 4 => ("GiftRing", "debts", "LGiftRing$Debts;", true)
  | 5 => ("GiftRing", "matching", "LGiftRing$Matching;", true)
  | 6 => ("GiftRing", "giftsLeft", "[I", true)
  | 7 => ("GiftRing", "islandCount", "I", false)
  | 8 => ("GiftRing", "manCount", "I", false)
  | 9 => ("GiftRing", "treasureCount", "I", false)
  | _ => ("GiftRing", "now", "I", false)
def tyX7 : Nat → FieldType := fun k => match k with
  | 0 => .object "GiftRing$Tape"
  | 1 => .object "GiftRing$Custom"
  | 2 => .array (.object "GiftRing$Man")
  | 3 => .array (.object "GiftRing$Treasure")
  | 4 => .object "GiftRing$Debts"
  | 5 => .object "GiftRing$Matching"
  | 6 => .array .int
  | 7 => .int
  | 8 => .int
  | 9 => .int
  | _ => .int
abbrev wsX70 : List Cond := u_ws RX7 TX7 11
theorem nmX7 : ∀ a, a < 11 → ∀ b, b < 11 → a ≠ b → (TX7 a).2.1 ≠ (TX7 b).2.1 := by decide +kernel
theorem tyX7_ok : ∀ k, k < 11 → parseFieldDescriptor (TX7 k).2.2.1 = some (tyX7 k) := by decide +kernel
abbrev cX7_init : ByteArray := prog_1_method_1_code
def yX7_init : MethodName := ⟨RX7, "<init>", "()V"⟩
abbrev cX7_feed : ByteArray := prog_1_method_2_code
def yX7_feed : MethodName := ⟨RX7, "feed", "(IIIII)I"⟩
abbrev cX7_custom : ByteArray := prog_1_method_3_code
def yX7_custom : MethodName := ⟨RX7, "custom", "(I)I"⟩
abbrev cX7_islands : ByteArray := prog_1_method_4_code
def yX7_islands : MethodName := ⟨RX7, "islands", "(I)Z"⟩
abbrev cX7_man : ByteArray := prog_1_method_5_code
def yX7_man : MethodName := ⟨RX7, "man", "(I)I"⟩
abbrev cX7_partners : ByteArray := prog_1_method_6_code
def yX7_partners : MethodName := ⟨RX7, "partners", "(II)Z"⟩
abbrev cX7_treasure : ByteArray := prog_1_method_7_code
def yX7_treasure : MethodName := ⟨RX7, "treasure", "(III)I"⟩
abbrev cX7_isIsland : ByteArray := prog_1_method_8_code
def yX7_isIsland : MethodName := ⟨RX7, "isIsland", "(I)Z"⟩
abbrev cX7_anyMan : ByteArray := prog_1_method_9_code
def yX7_anyMan : MethodName := ⟨RX7, "anyMan", "(I)LGiftRing$Man;"⟩
abbrev cX7_livingMan : ByteArray := prog_1_method_10_code
def yX7_livingMan : MethodName := ⟨RX7, "livingMan", "(I)LGiftRing$Man;"⟩
abbrev cX7_anyTreasure : ByteArray := prog_1_method_11_code
def yX7_anyTreasure : MethodName := ⟨RX7, "anyTreasure", "(I)LGiftRing$Treasure;"⟩
abbrev cX7_stepsBetween : ByteArray := prog_1_method_12_code
def yX7_stepsBetween : MethodName := ⟨RX7, "stepsBetween", "(II)I"⟩
abbrev cX7_give : ByteArray := prog_1_method_13_code
def yX7_give : MethodName := ⟨RX7, "give", "(III)I"⟩
abbrev cX7_isOnWay : ByteArray := prog_1_method_14_code
def yX7_isOnWay : MethodName := ⟨RX7, "isOnWay", "(III)Z"⟩
abbrev cX7_settle : ByteArray := prog_1_method_15_code
def yX7_settle : MethodName := ⟨RX7, "settle", "(IIILGiftRing$Treasure;)I"⟩
abbrev cX7_season : ByteArray := prog_1_method_16_code
def yX7_season : MethodName := ⟨RX7, "season", "()I"⟩
abbrev cX7_dies : ByteArray := prog_1_method_17_code
def yX7_dies : MethodName := ⟨RX7, "dies", "(II)Z"⟩
abbrev cX7_passTreasures : ByteArray := prog_1_method_18_code
def yX7_passTreasures : MethodName := ⟨RX7, "passTreasures", "(II)V"⟩
abbrev cX7_passPartners : ByteArray := prog_1_method_19_code
def yX7_passPartners : MethodName := ⟨RX7, "passPartners", "(II)V"⟩
abbrev cX7_lost : ByteArray := prog_1_method_20_code
def yX7_lost : MethodName := ⟨RX7, "lost", "(I)Z"⟩
abbrev cX7_known : ByteArray := prog_1_method_21_code
def yX7_known : MethodName := ⟨RX7, "known", "(II)I"⟩
abbrev cX7_hasCome : ByteArray := prog_1_method_22_code
def yX7_hasCome : MethodName := ⟨RX7, "hasCome", "(III)Z"⟩
abbrev cX7_way : ByteArray := prog_1_method_23_code
def yX7_way : MethodName := ⟨RX7, "way", "(II)I"⟩
abbrev cX7_closings : ByteArray := prog_1_method_24_code
def yX7_closings : MethodName := ⟨RX7, "closings", "(I)I"⟩
abbrev cX7_closing : ByteArray := prog_1_method_25_code
def yX7_closing : MethodName := ⟨RX7, "closing", "(I)I"⟩
abbrev cX7_soonest : ByteArray := prog_1_method_26_code
def yX7_soonest : MethodName := ⟨RX7, "soonest", "(II)I"⟩
abbrev cX7_through : ByteArray := prog_1_method_27_code
def yX7_through : MethodName := ⟨RX7, "through", "(III)I"⟩
abbrev cX7_measureGiftsTo : ByteArray := prog_1_method_28_code
def yX7_measureGiftsTo : MethodName := ⟨RX7, "measureGiftsTo", "(II)V"⟩
abbrev cX7_firstAt : ByteArray := prog_1_method_29_code
def yX7_firstAt : MethodName := ⟨RX7, "firstAt", "(III)I"⟩
abbrev cX7_nextOnWay : ByteArray := prog_1_method_30_code
def yX7_nextOnWay : MethodName := ⟨RX7, "nextOnWay", "(II)I"⟩
abbrev cX7_look : ByteArray := prog_1_method_31_code
def yX7_look : MethodName := ⟨RX7, "look", "(II)I"⟩
abbrev cX7_treasuresHeldBy : ByteArray := prog_1_method_32_code
def yX7_treasuresHeldBy : MethodName := ⟨RX7, "treasuresHeldBy", "(I)I"⟩
abbrev cX7_told : ByteArray := prog_1_method_33_code
def yX7_told : MethodName := ⟨RX7, "told", "(II)I"⟩
abbrev cX7_debt : ByteArray := prog_1_method_34_code
def yX7_debt : MethodName := ⟨RX7, "debt", "(II)I"⟩
abbrev cX7_quarrel : ByteArray := prog_1_method_35_code
def yX7_quarrel : MethodName := ⟨RX7, "quarrel", "(II)I"⟩
abbrev cX7_count : ByteArray := prog_1_method_36_code
def yX7_count : MethodName := ⟨RX7, "count", "(I)I"⟩
abbrev cX7_livingMen : ByteArray := prog_1_method_37_code
def yX7_livingMen : MethodName := ⟨RX7, "livingMen", "()I"⟩
abbrev cX7_lostTreasures : ByteArray := prog_1_method_38_code
def yX7_lostTreasures : MethodName := ⟨RX7, "lostTreasures", "()I"⟩
def RX8 : String := "GiftRingModel"
def TX8 : u_T := fun k => match k with
  | 0 => ("GiftRingModel", "tape", "[B", true)
  | 1 => ("GiftRingModel", "taped", "I", false)
  | 2 => ("GiftRingModel", "rules", "[I", true)
  | 3 => ("GiftRingModel", "said", "[I", true)
  | 4 => ("GiftRingModel", "ring", "I", false)
  | 5 => ("GiftRingModel", "men", "I", false)
  | 6 => ("GiftRingModel", "now", "I", false)
  | 7 => ("GiftRingModel", "isle", "[I", true)
  | 8 => ("GiftRingModel", "fame", "[I", true)
  | 9 => ("GiftRingModel", "isLiving", "[Z", true)
  | 10 => ("GiftRingModel", "arePartners", "[Z", true)
  | 11 => ("GiftRingModel", "treasures", "I", false)
  | 12 => ("GiftRingModel", "kind", "[I", true)
  | 13 => ("GiftRingModel", "worth", "[I", true)
  | 14 => ("GiftRingModel", "holder", "[I", true)
  | 15 => ("GiftRingModel", "since", "[I", true)
  | 16 => ("GiftRingModel", "given", "[I", true)
  | 17 => ("GiftRingModel", "holders", "[I", true)
  | 18 => ("GiftRingModel", "held", "[I", true)
  | 19 => ("GiftRingModel", "pieces", "[I", true)
  | 20 => ("GiftRingModel", "pieceSeason", "[I", true)
  | 21 => ("GiftRingModel", "pieceIsle", "[I", true)
  | 22 => ("GiftRingModel", "pieceTells", "[I", true)
  | 23 => ("GiftRingModel", "debts", "I", false)
  | 24 => ("GiftRingModel", "ower", "[I", true)
  | 25 => ("GiftRingModel", "owed", "[I", true)
  | 26 => ("GiftRingModel", "owedFor", "[I", true)
  | 27 => ("GiftRingModel", "need", "[I", true)
  | 28 => ("GiftRingModel", "dueIn", "[I", true)
  | 29 => ("GiftRingModel", "openedBy", "[I", true)
  | 30 => ("GiftRingModel", "closedBy", "[I", true)
  | 31 => ("GiftRingModel", "isWon", "[Z", true)
  | 32 => ("GiftRingModel", "may", "[I", true)
  | 33 => ("GiftRingModel", "owes", "[I", true)
  | 34 => ("GiftRingModel", "choice", "[I", true)
  | 35 => ("GiftRingModel", "best", "[I", true)
  | 36 => ("GiftRingModel", "closer", "[I", true)
  | 37 => ("GiftRingModel", "mays", "I", false)
  | 38 => ("GiftRingModel", "owesMany", "I", false)
  | 39 => ("GiftRingModel", "bestMany", "I", false)
  | 40 => ("GiftRingModel", "bestWorth", "I", false)
  | _ => ("GiftRingModel", "far", "[I", true)
def tyX8 : Nat → FieldType := fun k => match k with
  | 0 => .array .byte
  | 1 => .int
  | 2 => .array .int
  | 3 => .array .int
  | 4 => .int
  | 5 => .int
  | 6 => .int
  | 7 => .array .int
  | 8 => .array .int
  | 9 => .array .boolean
  | 10 => .array .boolean
  | 11 => .int
  | 12 => .array .int
  | 13 => .array .int
  | 14 => .array .int
  | 15 => .array .int
  | 16 => .array .int
  | 17 => .array .int
  | 18 => .array .int
  | 19 => .array .int
  | 20 => .array .int
  | 21 => .array .int
  | 22 => .array .int
  | 23 => .int
  | 24 => .array .int
  | 25 => .array .int
  | 26 => .array .int
  | 27 => .array .int
  | 28 => .array .int
  | 29 => .array .int
  | 30 => .array .int
  | 31 => .array .boolean
  | 32 => .array .int
  | 33 => .array .int
  | 34 => .array .int
  | 35 => .array .int
  | 36 => .array .int
  | 37 => .int
  | 38 => .int
  | 39 => .int
  | 40 => .int
  | _ => .array .int
abbrev wsX80 : List Cond := u_ws RX8 TX8 42
theorem nmX8 : ∀ a, a < 42 → ∀ b, b < 42 → a ≠ b → (TX8 a).2.1 ≠ (TX8 b).2.1 := by decide +kernel
theorem tyX8_ok : ∀ k, k < 42 → parseFieldDescriptor (TX8 k).2.2.1 = some (tyX8 k) := by decide +kernel
abbrev cX8_init : ByteArray := prog_10_method_1_code
def yX8_init : MethodName := ⟨RX8, "<init>", "()V"⟩
abbrev cX8_begins : ByteArray := prog_10_method_2_code
def yX8_begins : MethodName := ⟨RX8, "begins", "([I)V"⟩
abbrev cX8_types : ByteArray := prog_10_method_3_code
def yX8_types : MethodName := ⟨RX8, "types", "(I)V"⟩
abbrev cX8_feed : ByteArray := prog_10_method_4_code
def yX8_feed : MethodName := ⟨RX8, "feed", "(IIIII)I"⟩
abbrev cX8_letterOf : ByteArray := prog_10_method_5_code
def yX8_letterOf : MethodName := ⟨RX8, "letterOf", "(I)I"⟩
abbrev cX8_canBe : ByteArray := prog_10_method_6_code
def yX8_canBe : MethodName := ⟨RX8, "canBe", "(II)Z"⟩
abbrev cX8_isDigit : ByteArray := prog_10_method_7_code
def yX8_isDigit : MethodName := ⟨RX8, "isDigit", "(II)Z"⟩
abbrev cX8_parse : ByteArray := prog_10_method_8_code
def yX8_parse : MethodName := ⟨RX8, "parse", "(I)I"⟩
abbrev cX8_custom : ByteArray := prog_10_method_9_code
def yX8_custom : MethodName := ⟨RX8, "custom", "(I)I"⟩
abbrev cX8_isMan : ByteArray := prog_10_method_10_code
def yX8_isMan : MethodName := ⟨RX8, "isMan", "(I)Z"⟩
abbrev cX8_lives : ByteArray := prog_10_method_11_code
def yX8_lives : MethodName := ⟨RX8, "lives", "(I)Z"⟩
abbrev cX8_islands : ByteArray := prog_10_method_12_code
def yX8_islands : MethodName := ⟨RX8, "islands", "(I)Z"⟩
abbrev cX8_man : ByteArray := prog_10_method_13_code
def yX8_man : MethodName := ⟨RX8, "man", "(I)I"⟩
abbrev cX8_nextOf : ByteArray := prog_10_method_14_code
def yX8_nextOf : MethodName := ⟨RX8, "nextOf", "(I)I"⟩
abbrev cX8_partners : ByteArray := prog_10_method_15_code
def yX8_partners : MethodName := ⟨RX8, "partners", "(II)Z"⟩
abbrev cX8_isTreasure : ByteArray := prog_10_method_16_code
def yX8_isTreasure : MethodName := ⟨RX8, "isTreasure", "(I)Z"⟩
abbrev cX8_tellsNews : ByteArray := prog_10_method_17_code
def yX8_tellsNews : MethodName := ⟨RX8, "tellsNews", "(III)V"⟩
abbrev cX8_comesTo : ByteArray := prog_10_method_18_code
def yX8_comesTo : MethodName := ⟨RX8, "comesTo", "(II)V"⟩
abbrev cX8_treasure : ByteArray := prog_10_method_19_code
def yX8_treasure : MethodName := ⟨RX8, "treasure", "(III)I"⟩
abbrev cX8_apart : ByteArray := prog_10_method_20_code
def yX8_apart : MethodName := ⟨RX8, "apart", "(II)I"⟩
abbrev cX8_known : ByteArray := prog_10_method_21_code
def yX8_known : MethodName := ⟨RX8, "known", "(II)I"⟩
abbrev cX8_way : ByteArray := prog_10_method_22_code
def yX8_way : MethodName := ⟨RX8, "way", "(II)I"⟩
abbrev cX8_isOpen : ByteArray := prog_10_method_23_code
def yX8_isOpen : MethodName := ⟨RX8, "isOpen", "(I)Z"⟩
abbrev cX8_isLate : ByteArray := prog_10_method_24_code
def yX8_isLate : MethodName := ⟨RX8, "isLate", "(I)Z"⟩
abbrev cX8_quarrels : ByteArray := prog_10_method_25_code
def yX8_quarrels : MethodName := ⟨RX8, "quarrels", "(II)Z"⟩
abbrev cX8_goesRound : ByteArray := prog_10_method_26_code
def yX8_goesRound : MethodName := ⟨RX8, "goesRound", "(III)Z"⟩
abbrev cX8_isOther : ByteArray := prog_10_method_27_code
def yX8_isOther : MethodName := ⟨RX8, "isOther", "(IIII)Z"⟩
abbrev cX8_give : ByteArray := prog_10_method_28_code
def yX8_give : MethodName := ⟨RX8, "give", "(III)I"⟩
abbrev cX8_season : ByteArray := prog_10_method_29_code
def yX8_season : MethodName := ⟨RX8, "season", "()I"⟩
abbrev cX8_dies : ByteArray := prog_10_method_30_code
def yX8_dies : MethodName := ⟨RX8, "dies", "(II)Z"⟩
abbrev cX8_lost : ByteArray := prog_10_method_31_code
def yX8_lost : MethodName := ⟨RX8, "lost", "(I)Z"⟩
abbrev cX8_finds : ByteArray := prog_10_method_32_code
def yX8_finds : MethodName := ⟨RX8, "finds", "(I)V"⟩
abbrev cX8_canBeAll : ByteArray := prog_10_method_33_code
def yX8_canBeAll : MethodName := ⟨RX8, "canBeAll", "()Z"⟩
abbrev cX8_isLess : ByteArray := prog_10_method_34_code
def yX8_isLess : MethodName := ⟨RX8, "isLess", "()Z"⟩
abbrev cX8_closings : ByteArray := prog_10_method_35_code
def yX8_closings : MethodName := ⟨RX8, "closings", "(I)I"⟩
abbrev cX8_closing : ByteArray := prog_10_method_36_code
def yX8_closing : MethodName := ⟨RX8, "closing", "(I)I"⟩
abbrev cX8_fars : ByteArray := prog_10_method_37_code
def yX8_fars : MethodName := ⟨RX8, "fars", "(II)V"⟩
abbrev cX8_soonest : ByteArray := prog_10_method_38_code
def yX8_soonest : MethodName := ⟨RX8, "soonest", "(II)I"⟩
abbrev cX8_through : ByteArray := prog_10_method_39_code
def yX8_through : MethodName := ⟨RX8, "through", "(III)I"⟩
abbrev cX8_look : ByteArray := prog_10_method_40_code
def yX8_look : MethodName := ⟨RX8, "look", "(II)I"⟩
abbrev cX8_told : ByteArray := prog_10_method_41_code
def yX8_told : MethodName := ⟨RX8, "told", "(II)I"⟩
abbrev cX8_debt : ByteArray := prog_10_method_42_code
def yX8_debt : MethodName := ⟨RX8, "debt", "(II)I"⟩
abbrev cX8_quarrel : ByteArray := prog_10_method_43_code
def yX8_quarrel : MethodName := ⟨RX8, "quarrel", "(II)I"⟩
abbrev cX8_count : ByteArray := prog_10_method_44_code
def yX8_count : MethodName := ⟨RX8, "count", "(I)I"⟩
def RJx8e188 : String := "java/lang/Cloneable"
def TJx8e188 : u_T := fun k => match k with
  | _ => ("", "", "", false)
def tyJx8e188 : Nat → FieldType := fun k => match k with
  | _ => .int
abbrev wsJx8e1880 : List Cond := u_ws RJx8e188 TJx8e188 0
theorem nmJx8e188 : ∀ a, a < 0 → ∀ b, b < 0 → a ≠ b → (TJx8e188 a).2.1 ≠ (TJx8e188 b).2.1 := by decide +kernel
theorem tyJx8e188_ok : ∀ k, k < 0 → parseFieldDescriptor (TJx8e188 k).2.2.1 = some (tyJx8e188 k) := by decide +kernel
def RJ6 : String := "java/lang/Integer"
def TJ6 : u_T := fun k => match k with
  | _ => ("", "", "", false)
def tyJ6 : Nat → FieldType := fun k => match k with
  | _ => .int
abbrev wsJ60 : List Cond := u_ws RJ6 TJ6 0
theorem nmJ6 : ∀ a, a < 0 → ∀ b, b < 0 → a ≠ b → (TJ6 a).2.1 ≠ (TJ6 b).2.1 := by decide +kernel
theorem tyJ6_ok : ∀ k, k < 0 → parseFieldDescriptor (TJ6 k).2.2.1 = some (tyJ6 k) := by decide +kernel
abbrev cJ6_bitCount_0f7a4 : ByteArray := prog_12_method_49_code
def yJ6_bitCount_0f7a4 : MethodName := ⟨RJ6, "bitCount", "(I)I"⟩
def RJ9 : String := "java/lang/Math"
def TJ9 : u_T := fun k => match k with
  | _ => ("", "", "", false)
def tyJ9 : Nat → FieldType := fun k => match k with
  | _ => .int
abbrev wsJ90 : List Cond := u_ws RJ9 TJ9 0
theorem nmJ9 : ∀ a, a < 0 → ∀ b, b < 0 → a ≠ b → (TJ9 a).2.1 ≠ (TJ9 b).2.1 := by decide +kernel
theorem tyJ9_ok : ∀ k, k < 0 → parseFieldDescriptor (TJ9 k).2.2.1 = some (tyJ9 k) := by decide +kernel
abbrev cJ9_abs_0f7a4 : ByteArray := prog_13_method_59_code
def yJ9_abs_0f7a4 : MethodName := ⟨RJ9, "abs", "(I)I"⟩
abbrev cJ9_max_7cf53 : ByteArray := prog_13_method_65_code
def yJ9_max_7cf53 : MethodName := ⟨RJ9, "max", "(II)I"⟩
abbrev cJ9_min_7cf53 : ByteArray := prog_13_method_69_code
def yJ9_min_7cf53 : MethodName := ⟨RJ9, "min", "(II)I"⟩
def RJ0 : String := "java/lang/String"
def TJ0 : u_T := fun k => match k with
  | _ => ("", "", "", false)
def tyJ0 : Nat → FieldType := fun k => match k with
  | _ => .int
abbrev wsJ00 : List Cond := u_ws RJ0 TJ0 0
theorem nmJ0 : ∀ a, a < 0 → ∀ b, b < 0 → a ≠ b → (TJ0 a).2.1 ≠ (TJ0 b).2.1 := by decide +kernel
theorem tyJ0_ok : ∀ k, k < 0 → parseFieldDescriptor (TJ0 k).2.2.1 = some (tyJ0 k) := by decide +kernel
abbrev cJ0_length_8abf5 : ByteArray := prog_14_method_54_code
def yJ0_length_8abf5 : MethodName := ⟨RJ0, "length", "()I"⟩
abbrev cJ0_charAt_5068e : ByteArray := prog_14_method_56_code
def yJ0_charAt_5068e : MethodName := ⟨RJ0, "charAt", "(I)C"⟩
abbrev cJ0_coder_7d493 : ByteArray := prog_14_method_152_code
def yJ0_coder_7d493 : MethodName := ⟨RJ0, "coder", "()B"⟩
abbrev cJ0_isLatin1_aae02 : ByteArray := prog_14_method_154_code
def yJ0_isLatin1_aae02 : MethodName := ⟨RJ0, "isLatin1", "()Z"⟩
abbrev cJ0_checkIndex_df160 : ByteArray := prog_14_method_155_code
def yJ0_checkIndex_df160 : MethodName := ⟨RJ0, "checkIndex", "(II)V"⟩
def RJ1 : String := "java/lang/StringLatin1"
def TJ1 : u_T := fun k => match k with
  | _ => ("", "", "", false)
def tyJ1 : Nat → FieldType := fun k => match k with
  | _ => .int
abbrev wsJ10 : List Cond := u_ws RJ1 TJ1 0
theorem nmJ1 : ∀ a, a < 0 → ∀ b, b < 0 → a ≠ b → (TJ1 a).2.1 ≠ (TJ1 b).2.1 := by decide +kernel
theorem tyJ1_ok : ∀ k, k < 0 → parseFieldDescriptor (TJ1 k).2.2.1 = some (tyJ1 k) := by decide +kernel
abbrev cJ1_charAt_3b067 : ByteArray := prog_15_method_2_code
def yJ1_charAt_3b067 : MethodName := ⟨RJ1, "charAt", "([BI)C"⟩
def RJ2 : String := "java/lang/StringUTF16"
def TJ2 : u_T := fun k => match k with
  | _ => ("", "", "", false)
def tyJ2 : Nat → FieldType := fun k => match k with
  | _ => .int
abbrev wsJ20 : List Cond := u_ws RJ2 TJ2 0
theorem nmJ2 : ∀ a, a < 0 → ∀ b, b < 0 → a ≠ b → (TJ2 a).2.1 ≠ (TJ2 b).2.1 := by decide +kernel
theorem tyJ2_ok : ∀ k, k < 0 → parseFieldDescriptor (TJ2 k).2.2.1 = some (tyJ2 k) := by decide +kernel
abbrev cJ2_getChar_3b067 : ByteArray := prog_16_method_5_code
def yJ2_getChar_3b067 : MethodName := ⟨RJ2, "getChar", "([BI)C"⟩
abbrev cJ2_length_9d52b : ByteArray := prog_16_method_6_code
def yJ2_length_9d52b : MethodName := ⟨RJ2, "length", "([B)I"⟩
abbrev cJ2_charAt_3b067 : ByteArray := prog_16_method_83_code
def yJ2_charAt_3b067 : MethodName := ⟨RJ2, "charAt", "([BI)C"⟩
abbrev cJ2_checkIndex_2214a : ByteArray := prog_16_method_91_code
def yJ2_checkIndex_2214a : MethodName := ⟨RJ2, "checkIndex", "(I[B)V"⟩
def RJ10 : String := "java/lang/System"
def TJ10 : u_T := fun k => match k with
  | _ => ("", "", "", false)
def tyJ10 : Nat → FieldType := fun k => match k with
  | _ => .int
abbrev wsJ100 : List Cond := u_ws RJ10 TJ10 0
theorem nmJ10 : ∀ a, a < 0 → ∀ b, b < 0 → a ≠ b → (TJ10 a).2.1 ≠ (TJ10 b).2.1 := by decide +kernel
theorem tyJ10_ok : ∀ k, k < 0 → parseFieldDescriptor (TJ10 k).2.2.1 = some (tyJ10 k) := by decide +kernel
def RJ7 : String := "java/util/Arrays"
def TJ7 : u_T := fun k => match k with
  | _ => ("", "", "", false)
def tyJ7 : Nat → FieldType := fun k => match k with
  | _ => .int
abbrev wsJ70 : List Cond := u_ws RJ7 TJ7 0
theorem nmJ7 : ∀ a, a < 0 → ∀ b, b < 0 → a ≠ b → (TJ7 a).2.1 ≠ (TJ7 b).2.1 := by decide +kernel
theorem tyJ7_ok : ∀ k, k < 0 → parseFieldDescriptor (TJ7 k).2.2.1 = some (tyJ7 k) := by decide +kernel
abbrev cJ7_fill_53178 : ByteArray := prog_18_method_103_code
def yJ7_fill_53178 : MethodName := ⟨RJ7, "fill", "([II)V"⟩
def RJ3 : String := "jdk/internal/util/Preconditions"
def TJ3 : u_T := fun k => match k with
  | _ => ("", "", "", false)
def tyJ3 : Nat → FieldType := fun k => match k with
  | _ => .int
abbrev wsJ30 : List Cond := u_ws RJ3 TJ3 0
theorem nmJ3 : ∀ a, a < 0 → ∀ b, b < 0 → a ≠ b → (TJ3 a).2.1 ≠ (TJ3 b).2.1 := by decide +kernel
theorem tyJ3_ok : ∀ k, k < 0 → parseFieldDescriptor (TJ3 k).2.2.1 = some (tyJ3 k) := by decide +kernel
abbrev cJ3_checkIndex_8e157 : ByteArray := prog_19_method_11_code
def yJ3_checkIndex_8e157 : MethodName := ⟨RJ3, "checkIndex", "(IILjava/util/function/BiFunction;)I"⟩
def RL : String := "GiftRingLaw"
abbrev cL_law : ByteArray := code
def yL_law : MethodName := ⟨RL, "law", "([I)Z"⟩
abbrev vwCl : List vw_C := [(RX0, TX0, 2), (RX1, TX1, 8), (RX2, TX2, 2), (RX3, TX3, 4), (RX4, TX4, 9), (RX5, TX5, 2), (RX6, TX6, 10), (RX7, TX7, 11), (RX8, TX8, 42)]
end
section
theorem dX0_init_0 : decode cX0_init 0 = .ok (.aload_n 0, 1) := by decide +kernel
theorem dX0_init_1 : decode cX0_init 1 = .ok (.invokespecial 3, 3) := by decide +kernel
theorem dX0_init_4 : decode cX0_init 4 = .ok (.aload_n 0, 1) := by decide +kernel
theorem dX0_init_5 : decode cX0_init 5 = .ok (.getstatic 9, 3) := by decide +kernel
theorem dX0_init_8 : decode cX0_init 8 = .ok (.invokevirtual 15, 3) := by decide +kernel
theorem dX0_init_11 : decode cX0_init 11 = .ok (.checkcast 16, 3) := by decide +kernel
theorem dX0_init_14 : decode cX0_init 14 = .ok (.putfield 20, 3) := by decide +kernel
theorem dX0_init_17 : decode cX0_init 17 = .ok (.aload_n 0, 1) := by decide +kernel
theorem dX0_init_18 : decode cX0_init 18 = .ok (.getstatic 9, 3) := by decide +kernel
theorem dX0_init_21 : decode cX0_init 21 = .ok (.arraylength, 1) := by decide +kernel
theorem dX0_init_22 : decode cX0_init 22 = .ok (.newarray .int, 2) := by decide +kernel
theorem dX0_init_24 : decode cX0_init 24 = .ok (.putfield 23, 3) := by decide +kernel
theorem dX0_init_27 : decode cX0_init 27 = .ok (.return_, 1) := by decide +kernel
theorem dX0_term_0 : decode cX0_term 0 = .ok (.iload_n 1, 1) := by decide +kernel
theorem dX0_term_1 : decode cX0_term 1 = .ok (.ifCond .lt 21, 3) := by decide +kernel
theorem dX0_term_4 : decode cX0_term 4 = .ok (.iload_n 1, 1) := by decide +kernel
theorem dX0_term_5 : decode cX0_term 5 = .ok (.aload_n 0, 1) := by decide +kernel
theorem dX0_term_6 : decode cX0_term 6 = .ok (.getfield 20, 3) := by decide +kernel
theorem dX0_term_9 : decode cX0_term 9 = .ok (.arraylength, 1) := by decide +kernel
theorem dX0_term_10 : decode cX0_term 10 = .ok (.if_icmp .ge 12, 3) := by decide +kernel
theorem dX0_term_13 : decode cX0_term 13 = .ok (.aload_n 0, 1) := by decide +kernel
theorem dX0_term_14 : decode cX0_term 14 = .ok (.getfield 20, 3) := by decide +kernel
theorem dX0_term_17 : decode cX0_term 17 = .ok (.iload_n 1, 1) := by decide +kernel
theorem dX0_term_18 : decode cX0_term 18 = .ok (.iaload, 1) := by decide +kernel
theorem dX0_term_19 : decode cX0_term 19 = .ok (.goto 4, 3) := by decide +kernel
theorem dX0_term_22 : decode cX0_term 22 = .ok (.iconst (-1), 1) := by decide +kernel
theorem dX0_term_23 : decode cX0_term 23 = .ok (.ireturn, 1) := by decide +kernel
theorem dX0_needFor_0 : decode cX0_needFor 0 = .ok (.aload_n 0, 1) := by decide +kernel
theorem dX0_needFor_1 : decode cX0_needFor 1 = .ok (.getfield 20, 3) := by decide +kernel
theorem dX0_needFor_4 : decode cX0_needFor 4 = .ok (.iconst 0, 1) := by decide +kernel
theorem dX0_needFor_5 : decode cX0_needFor 5 = .ok (.iaload, 1) := by decide +kernel
theorem dX0_needFor_6 : decode cX0_needFor 6 = .ok (.iload_n 1, 1) := by decide +kernel
theorem dX0_needFor_7 : decode cX0_needFor 7 = .ok (.imul, 1) := by decide +kernel
theorem dX0_needFor_8 : decode cX0_needFor 8 = .ok (.bipush 99, 2) := by decide +kernel
theorem dX0_needFor_10 : decode cX0_needFor 10 = .ok (.iadd, 1) := by decide +kernel
theorem dX0_needFor_11 : decode cX0_needFor 11 = .ok (.bipush 100, 2) := by decide +kernel
theorem dX0_needFor_13 : decode cX0_needFor 13 = .ok (.idiv, 1) := by decide +kernel
theorem dX0_needFor_14 : decode cX0_needFor 14 = .ok (.ireturn, 1) := by decide +kernel
theorem dX0_seasonsTillDue_0 : decode cX0_seasonsTillDue 0 = .ok (.aload_n 0, 1) := by decide +kernel
theorem dX0_seasonsTillDue_1 : decode cX0_seasonsTillDue 1 = .ok (.getfield 20, 3) := by decide +kernel
theorem dX0_seasonsTillDue_4 : decode cX0_seasonsTillDue 4 = .ok (.iconst 1, 1) := by decide +kernel
theorem dX0_seasonsTillDue_5 : decode cX0_seasonsTillDue 5 = .ok (.iaload, 1) := by decide +kernel
theorem dX0_seasonsTillDue_6 : decode cX0_seasonsTillDue 6 = .ok (.ireturn, 1) := by decide +kernel
theorem dX0_seasonsWon_0 : decode cX0_seasonsWon 0 = .ok (.aload_n 0, 1) := by decide +kernel
theorem dX0_seasonsWon_1 : decode cX0_seasonsWon 1 = .ok (.getfield 20, 3) := by decide +kernel
theorem dX0_seasonsWon_4 : decode cX0_seasonsWon 4 = .ok (.iconst 2, 1) := by decide +kernel
theorem dX0_seasonsWon_5 : decode cX0_seasonsWon 5 = .ok (.iaload, 1) := by decide +kernel
theorem dX0_seasonsWon_6 : decode cX0_seasonsWon 6 = .ok (.ireturn, 1) := by decide +kernel
theorem dX0_seasonsToHold_0 : decode cX0_seasonsToHold 0 = .ok (.aload_n 0, 1) := by decide +kernel
theorem dX0_seasonsToHold_1 : decode cX0_seasonsToHold 1 = .ok (.getfield 20, 3) := by decide +kernel
theorem dX0_seasonsToHold_4 : decode cX0_seasonsToHold 4 = .ok (.iconst 3, 1) := by decide +kernel
theorem dX0_seasonsToHold_5 : decode cX0_seasonsToHold 5 = .ok (.iaload, 1) := by decide +kernel
theorem dX0_seasonsToHold_6 : decode cX0_seasonsToHold 6 = .ok (.ireturn, 1) := by decide +kernel
theorem dX0_read_0 : decode cX0_read 0 = .ok (.getstatic 9, 3) := by decide +kernel
theorem dX0_read_3 : decode cX0_read 3 = .ok (.iconst 0, 1) := by decide +kernel
theorem dX0_read_4 : decode cX0_read 4 = .ok (.aload_n 0, 1) := by decide +kernel
theorem dX0_read_5 : decode cX0_read 5 = .ok (.getfield 23, 3) := by decide +kernel
theorem dX0_read_8 : decode cX0_read 8 = .ok (.iconst 0, 1) := by decide +kernel
theorem dX0_read_9 : decode cX0_read 9 = .ok (.getstatic 9, 3) := by decide +kernel
theorem dX0_read_12 : decode cX0_read 12 = .ok (.arraylength, 1) := by decide +kernel
theorem dX0_read_13 : decode cX0_read 13 = .ok (.invokestatic 26, 3) := by decide +kernel
theorem dX0_read_16 : decode cX0_read 16 = .ok (.iconst 0, 1) := by decide +kernel
theorem dX0_read_17 : decode cX0_read 17 = .ok (.istore_n 3, 1) := by decide +kernel
theorem dX0_read_18 : decode cX0_read 18 = .ok (.iload_n 3, 1) := by decide +kernel
theorem dX0_read_19 : decode cX0_read 19 = .ok (.iload_n 2, 1) := by decide +kernel
theorem dX0_read_20 : decode cX0_read 20 = .ok (.if_icmp .gt 44, 3) := by decide +kernel
theorem dX0_read_23 : decode cX0_read 23 = .ok (.aload_n 1, 1) := by decide +kernel
theorem dX0_read_24 : decode cX0_read 24 = .ok (.iload_n 3, 1) := by decide +kernel
theorem dX0_read_25 : decode cX0_read 25 = .ok (.iconst 1, 1) := by decide +kernel
theorem dX0_read_26 : decode cX0_read 26 = .ok (.iadd, 1) := by decide +kernel
theorem dX0_read_27 : decode cX0_read 27 = .ok (.iload_n 2, 1) := by decide +kernel
theorem dX0_read_28 : decode cX0_read 28 = .ok (.invokestatic 32, 3) := by decide +kernel
theorem dX0_read_31 : decode cX0_read 31 = .ok (.istore 4, 2) := by decide +kernel
theorem dX0_read_33 : decode cX0_read 33 = .ok (.aload_n 0, 1) := by decide +kernel
theorem dX0_read_34 : decode cX0_read 34 = .ok (.aload_n 1, 1) := by decide +kernel
theorem dX0_read_35 : decode cX0_read 35 = .ok (.iload_n 3, 1) := by decide +kernel
theorem dX0_read_36 : decode cX0_read 36 = .ok (.iload 4, 2) := by decide +kernel
theorem dX0_read_38 : decode cX0_read 38 = .ok (.iload_n 2, 1) := by decide +kernel
theorem dX0_read_39 : decode cX0_read 39 = .ok (.invokevirtual 36, 3) := by decide +kernel
theorem dX0_read_42 : decode cX0_read 42 = .ok (.istore 5, 2) := by decide +kernel
theorem dX0_read_44 : decode cX0_read 44 = .ok (.iload 5, 2) := by decide +kernel
theorem dX0_read_46 : decode cX0_read 46 = .ok (.ifCond .eq 6, 3) := by decide +kernel
theorem dX0_read_49 : decode cX0_read 49 = .ok (.iload 5, 2) := by decide +kernel
theorem dX0_read_51 : decode cX0_read 51 = .ok (.ireturn, 1) := by decide +kernel
theorem dX0_read_52 : decode cX0_read 52 = .ok (.iload_n 3, 1) := by decide +kernel
theorem dX0_read_53 : decode cX0_read 53 = .ok (.iconst 1, 1) := by decide +kernel
theorem dX0_read_54 : decode cX0_read 54 = .ok (.iload 4, 2) := by decide +kernel
theorem dX0_read_56 : decode cX0_read 56 = .ok (.iadd, 1) := by decide +kernel
theorem dX0_read_57 : decode cX0_read 57 = .ok (.iconst 1, 1) := by decide +kernel
theorem dX0_read_58 : decode cX0_read 58 = .ok (.iadd, 1) := by decide +kernel
theorem dX0_read_59 : decode cX0_read 59 = .ok (.iadd, 1) := by decide +kernel
theorem dX0_read_60 : decode cX0_read 60 = .ok (.istore_n 3, 1) := by decide +kernel
theorem dX0_read_61 : decode cX0_read 61 = .ok (.goto (-43), 3) := by decide +kernel
theorem dX0_read_64 : decode cX0_read 64 = .ok (.aload_n 0, 1) := by decide +kernel
theorem dX0_read_65 : decode cX0_read 65 = .ok (.getfield 23, 3) := by decide +kernel
theorem dX0_read_68 : decode cX0_read 68 = .ok (.iconst 0, 1) := by decide +kernel
theorem dX0_read_69 : decode cX0_read 69 = .ok (.aload_n 0, 1) := by decide +kernel
theorem dX0_read_70 : decode cX0_read 70 = .ok (.getfield 20, 3) := by decide +kernel
theorem dX0_read_73 : decode cX0_read 73 = .ok (.iconst 0, 1) := by decide +kernel
theorem dX0_read_74 : decode cX0_read 74 = .ok (.aload_n 0, 1) := by decide +kernel
theorem dX0_read_75 : decode cX0_read 75 = .ok (.getfield 20, 3) := by decide +kernel
theorem dX0_read_78 : decode cX0_read 78 = .ok (.arraylength, 1) := by decide +kernel
theorem dX0_read_79 : decode cX0_read 79 = .ok (.invokestatic 26, 3) := by decide +kernel
theorem dX0_read_82 : decode cX0_read 82 = .ok (.iconst 0, 1) := by decide +kernel
theorem dX0_read_83 : decode cX0_read 83 = .ok (.ireturn, 1) := by decide +kernel
theorem dX0_readClause_0 : decode cX0_readClause 0 = .ok (.aload_n 1, 1) := by decide +kernel
theorem dX0_readClause_1 : decode cX0_readClause 1 = .ok (.iload_n 2, 1) := by decide +kernel
theorem dX0_readClause_2 : decode cX0_readClause 2 = .ok (.iload 4, 2) := by decide +kernel
theorem dX0_readClause_4 : decode cX0_readClause 4 = .ok (.invokevirtual 40, 3) := by decide +kernel
theorem dX0_readClause_7 : decode cX0_readClause 7 = .ok (.invokestatic 46, 3) := by decide +kernel
theorem dX0_readClause_10 : decode cX0_readClause 10 = .ok (.istore 5, 2) := by decide +kernel
theorem dX0_readClause_12 : decode cX0_readClause 12 = .ok (.iload 5, 2) := by decide +kernel
theorem dX0_readClause_14 : decode cX0_readClause 14 = .ok (.iconst (-1), 1) := by decide +kernel
theorem dX0_readClause_15 : decode cX0_readClause 15 = .ok (.if_icmp .ne 9, 3) := by decide +kernel
theorem dX0_readClause_18 : decode cX0_readClause 18 = .ok (.iconst 1, 1) := by decide +kernel
theorem dX0_readClause_19 : decode cX0_readClause 19 = .ok (.iload_n 2, 1) := by decide +kernel
theorem dX0_readClause_20 : decode cX0_readClause 20 = .ok (.invokestatic 50, 3) := by decide +kernel
theorem dX0_readClause_23 : decode cX0_readClause 23 = .ok (.ireturn, 1) := by decide +kernel
theorem dX0_readClause_24 : decode cX0_readClause 24 = .ok (.iload_n 3, 1) := by decide +kernel
theorem dX0_readClause_25 : decode cX0_readClause 25 = .ok (.ifCond .ne 11, 3) := by decide +kernel
theorem dX0_readClause_28 : decode cX0_readClause 28 = .ok (.iconst 2, 1) := by decide +kernel
theorem dX0_readClause_29 : decode cX0_readClause 29 = .ok (.iload_n 2, 1) := by decide +kernel
theorem dX0_readClause_30 : decode cX0_readClause 30 = .ok (.iconst 1, 1) := by decide +kernel
theorem dX0_readClause_31 : decode cX0_readClause 31 = .ok (.iadd, 1) := by decide +kernel
theorem dX0_readClause_32 : decode cX0_readClause 32 = .ok (.invokestatic 50, 3) := by decide +kernel
theorem dX0_readClause_35 : decode cX0_readClause 35 = .ok (.ireturn, 1) := by decide +kernel
theorem dX0_readClause_36 : decode cX0_readClause 36 = .ok (.iload_n 3, 1) := by decide +kernel
theorem dX0_readClause_37 : decode cX0_readClause 37 = .ok (.iconst 4, 1) := by decide +kernel
theorem dX0_readClause_38 : decode cX0_readClause 38 = .ok (.if_icmp .le 13, 3) := by decide +kernel
theorem dX0_readClause_41 : decode cX0_readClause 41 = .ok (.iconst 3, 1) := by decide +kernel
theorem dX0_readClause_42 : decode cX0_readClause 42 = .ok (.iload_n 2, 1) := by decide +kernel
theorem dX0_readClause_43 : decode cX0_readClause 43 = .ok (.iconst 1, 1) := by decide +kernel
theorem dX0_readClause_44 : decode cX0_readClause 44 = .ok (.iadd, 1) := by decide +kernel
theorem dX0_readClause_45 : decode cX0_readClause 45 = .ok (.iconst 4, 1) := by decide +kernel
theorem dX0_readClause_46 : decode cX0_readClause 46 = .ok (.iadd, 1) := by decide +kernel
theorem dX0_readClause_47 : decode cX0_readClause 47 = .ok (.invokestatic 50, 3) := by decide +kernel
theorem dX0_readClause_50 : decode cX0_readClause 50 = .ok (.ireturn, 1) := by decide +kernel
theorem dX0_readClause_51 : decode cX0_readClause 51 = .ok (.aload_n 1, 1) := by decide +kernel
theorem dX0_readClause_52 : decode cX0_readClause 52 = .ok (.iload_n 2, 1) := by decide +kernel
theorem dX0_readClause_53 : decode cX0_readClause 53 = .ok (.iconst 1, 1) := by decide +kernel
theorem dX0_readClause_54 : decode cX0_readClause 54 = .ok (.iadd, 1) := by decide +kernel
theorem dX0_readClause_55 : decode cX0_readClause 55 = .ok (.iload_n 3, 1) := by decide +kernel
theorem dX0_readClause_56 : decode cX0_readClause 56 = .ok (.iload 4, 2) := by decide +kernel
theorem dX0_readClause_58 : decode cX0_readClause 58 = .ok (.invokestatic 53, 3) := by decide +kernel
theorem dX0_readClause_61 : decode cX0_readClause 61 = .ok (.istore 6, 2) := by decide +kernel
theorem dX0_readClause_63 : decode cX0_readClause 63 = .ok (.iload 6, 2) := by decide +kernel
theorem dX0_readClause_65 : decode cX0_readClause 65 = .ok (.getstatic 56, 3) := by decide +kernel
theorem dX0_readClause_68 : decode cX0_readClause 68 = .ok (.iload 5, 2) := by decide +kernel
theorem dX0_readClause_70 : decode cX0_readClause 70 = .ok (.iaload, 1) := by decide +kernel
theorem dX0_readClause_71 : decode cX0_readClause 71 = .ok (.if_icmp .lt 14, 3) := by decide +kernel
theorem dX0_readClause_74 : decode cX0_readClause 74 = .ok (.iload 6, 2) := by decide +kernel
theorem dX0_readClause_76 : decode cX0_readClause 76 = .ok (.getstatic 59, 3) := by decide +kernel
theorem dX0_readClause_79 : decode cX0_readClause 79 = .ok (.iload 5, 2) := by decide +kernel
theorem dX0_readClause_81 : decode cX0_readClause 81 = .ok (.iaload, 1) := by decide +kernel
theorem dX0_readClause_82 : decode cX0_readClause 82 = .ok (.if_icmp .le 11, 3) := by decide +kernel
theorem dX0_readClause_85 : decode cX0_readClause 85 = .ok (.iconst 4, 1) := by decide +kernel
theorem dX0_readClause_86 : decode cX0_readClause 86 = .ok (.iload_n 2, 1) := by decide +kernel
theorem dX0_readClause_87 : decode cX0_readClause 87 = .ok (.iconst 1, 1) := by decide +kernel
theorem dX0_readClause_88 : decode cX0_readClause 88 = .ok (.iadd, 1) := by decide +kernel
theorem dX0_readClause_89 : decode cX0_readClause 89 = .ok (.invokestatic 50, 3) := by decide +kernel
theorem dX0_readClause_92 : decode cX0_readClause 92 = .ok (.ireturn, 1) := by decide +kernel
theorem dX0_readClause_93 : decode cX0_readClause 93 = .ok (.aload_n 1, 1) := by decide +kernel
theorem dX0_readClause_94 : decode cX0_readClause 94 = .ok (.iload_n 2, 1) := by decide +kernel
theorem dX0_readClause_95 : decode cX0_readClause 95 = .ok (.iconst 1, 1) := by decide +kernel
theorem dX0_readClause_96 : decode cX0_readClause 96 = .ok (.iadd, 1) := by decide +kernel
theorem dX0_readClause_97 : decode cX0_readClause 97 = .ok (.iload_n 3, 1) := by decide +kernel
theorem dX0_readClause_98 : decode cX0_readClause 98 = .ok (.iadd, 1) := by decide +kernel
theorem dX0_readClause_99 : decode cX0_readClause 99 = .ok (.iload 4, 2) := by decide +kernel
theorem dX0_readClause_101 : decode cX0_readClause 101 = .ok (.invokevirtual 40, 3) := by decide +kernel
theorem dX0_readClause_104 : decode cX0_readClause 104 = .ok (.istore 7, 2) := by decide +kernel
theorem dX0_readClause_106 : decode cX0_readClause 106 = .ok (.iload 7, 2) := by decide +kernel
theorem dX0_readClause_108 : decode cX0_readClause 108 = .ok (.bipush 59, 2) := by decide +kernel
theorem dX0_readClause_110 : decode cX0_readClause 110 = .ok (.if_icmp .eq 19, 3) := by decide +kernel
theorem dX0_readClause_113 : decode cX0_readClause 113 = .ok (.iload 7, 2) := by decide +kernel
theorem dX0_readClause_115 : decode cX0_readClause 115 = .ok (.iconst (-1), 1) := by decide +kernel
theorem dX0_readClause_116 : decode cX0_readClause 116 = .ok (.if_icmp .eq 13, 3) := by decide +kernel
theorem dX0_readClause_119 : decode cX0_readClause 119 = .ok (.iconst 5, 1) := by decide +kernel
theorem dX0_readClause_120 : decode cX0_readClause 120 = .ok (.iload_n 2, 1) := by decide +kernel
theorem dX0_readClause_121 : decode cX0_readClause 121 = .ok (.iconst 1, 1) := by decide +kernel
theorem dX0_readClause_122 : decode cX0_readClause 122 = .ok (.iadd, 1) := by decide +kernel
theorem dX0_readClause_123 : decode cX0_readClause 123 = .ok (.iload_n 3, 1) := by decide +kernel
theorem dX0_readClause_124 : decode cX0_readClause 124 = .ok (.iadd, 1) := by decide +kernel
theorem dX0_readClause_125 : decode cX0_readClause 125 = .ok (.invokestatic 50, 3) := by decide +kernel
theorem dX0_readClause_128 : decode cX0_readClause 128 = .ok (.ireturn, 1) := by decide +kernel
theorem dX0_readClause_129 : decode cX0_readClause 129 = .ok (.aload_n 0, 1) := by decide +kernel
theorem dX0_readClause_130 : decode cX0_readClause 130 = .ok (.getfield 23, 3) := by decide +kernel
theorem dX0_readClause_133 : decode cX0_readClause 133 = .ok (.iload 5, 2) := by decide +kernel
theorem dX0_readClause_135 : decode cX0_readClause 135 = .ok (.iload 6, 2) := by decide +kernel
theorem dX0_readClause_137 : decode cX0_readClause 137 = .ok (.iastore, 1) := by decide +kernel
theorem dX0_readClause_138 : decode cX0_readClause 138 = .ok (.iconst 0, 1) := by decide +kernel
theorem dX0_readClause_139 : decode cX0_readClause 139 = .ok (.ireturn, 1) := by decide +kernel
theorem dX0_faultAt_0 : decode cX0_faultAt 0 = .ok (.bipush 100, 2) := by decide +kernel
theorem dX0_faultAt_2 : decode cX0_faultAt 2 = .ok (.iload_n 0, 1) := by decide +kernel
theorem dX0_faultAt_3 : decode cX0_faultAt 3 = .ok (.imul, 1) := by decide +kernel
theorem dX0_faultAt_4 : decode cX0_faultAt 4 = .ok (.iload_n 1, 1) := by decide +kernel
theorem dX0_faultAt_5 : decode cX0_faultAt 5 = .ok (.iadd, 1) := by decide +kernel
theorem dX0_faultAt_6 : decode cX0_faultAt 6 = .ok (.ireturn, 1) := by decide +kernel
theorem dX0_termOf_0 : decode cX0_termOf 0 = .ok (.iconst 0, 1) := by decide +kernel
theorem dX0_termOf_1 : decode cX0_termOf 1 = .ok (.istore_n 1, 1) := by decide +kernel
theorem dX0_termOf_2 : decode cX0_termOf 2 = .ok (.iload_n 1, 1) := by decide +kernel
theorem dX0_termOf_3 : decode cX0_termOf 3 = .ok (.ldc 62, 2) := by decide +kernel
theorem dX0_termOf_5 : decode cX0_termOf 5 = .ok (.invokevirtual 64, 3) := by decide +kernel
theorem dX0_termOf_8 : decode cX0_termOf 8 = .ok (.if_icmp .ge 21, 3) := by decide +kernel
theorem dX0_termOf_11 : decode cX0_termOf 11 = .ok (.ldc 62, 2) := by decide +kernel
theorem dX0_termOf_13 : decode cX0_termOf 13 = .ok (.iload_n 1, 1) := by decide +kernel
theorem dX0_termOf_14 : decode cX0_termOf 14 = .ok (.invokevirtual 70, 3) := by decide +kernel
theorem dX0_termOf_17 : decode cX0_termOf 17 = .ok (.iload_n 0, 1) := by decide +kernel
theorem dX0_termOf_18 : decode cX0_termOf 18 = .ok (.if_icmp .ne 5, 3) := by decide +kernel
theorem dX0_termOf_21 : decode cX0_termOf 21 = .ok (.iload_n 1, 1) := by decide +kernel
theorem dX0_termOf_22 : decode cX0_termOf 22 = .ok (.ireturn, 1) := by decide +kernel
theorem dX0_termOf_23 : decode cX0_termOf 23 = .ok (.iinc 1 1, 3) := by decide +kernel
theorem dX0_termOf_26 : decode cX0_termOf 26 = .ok (.goto (-24), 3) := by decide +kernel
theorem dX0_termOf_29 : decode cX0_termOf 29 = .ok (.iconst (-1), 1) := by decide +kernel
theorem dX0_termOf_30 : decode cX0_termOf 30 = .ok (.ireturn, 1) := by decide +kernel
theorem dX0_digitsFrom_0 : decode cX0_digitsFrom 0 = .ok (.iconst 0, 1) := by decide +kernel
theorem dX0_digitsFrom_1 : decode cX0_digitsFrom 1 = .ok (.istore_n 3, 1) := by decide +kernel
theorem dX0_digitsFrom_2 : decode cX0_digitsFrom 2 = .ok (.iload_n 3, 1) := by decide +kernel
theorem dX0_digitsFrom_3 : decode cX0_digitsFrom 3 = .ok (.iconst 4, 1) := by decide +kernel
theorem dX0_digitsFrom_4 : decode cX0_digitsFrom 4 = .ok (.if_icmp .gt 23, 3) := by decide +kernel
theorem dX0_digitsFrom_7 : decode cX0_digitsFrom 7 = .ok (.aload_n 0, 1) := by decide +kernel
theorem dX0_digitsFrom_8 : decode cX0_digitsFrom 8 = .ok (.iload_n 1, 1) := by decide +kernel
theorem dX0_digitsFrom_9 : decode cX0_digitsFrom 9 = .ok (.iload_n 3, 1) := by decide +kernel
theorem dX0_digitsFrom_10 : decode cX0_digitsFrom 10 = .ok (.iadd, 1) := by decide +kernel
theorem dX0_digitsFrom_11 : decode cX0_digitsFrom 11 = .ok (.iload_n 2, 1) := by decide +kernel
theorem dX0_digitsFrom_12 : decode cX0_digitsFrom 12 = .ok (.invokevirtual 40, 3) := by decide +kernel
theorem dX0_digitsFrom_15 : decode cX0_digitsFrom 15 = .ok (.invokestatic 74, 3) := by decide +kernel
theorem dX0_digitsFrom_18 : decode cX0_digitsFrom 18 = .ok (.ifCond .eq 9, 3) := by decide +kernel
theorem dX0_digitsFrom_21 : decode cX0_digitsFrom 21 = .ok (.iinc 3 1, 3) := by decide +kernel
theorem dX0_digitsFrom_24 : decode cX0_digitsFrom 24 = .ok (.goto (-22), 3) := by decide +kernel
theorem dX0_digitsFrom_27 : decode cX0_digitsFrom 27 = .ok (.iload_n 3, 1) := by decide +kernel
theorem dX0_digitsFrom_28 : decode cX0_digitsFrom 28 = .ok (.ireturn, 1) := by decide +kernel
theorem dX0_isDigit_0 : decode cX0_isDigit 0 = .ok (.iload_n 0, 1) := by decide +kernel
theorem dX0_isDigit_1 : decode cX0_isDigit 1 = .ok (.bipush 48, 2) := by decide +kernel
theorem dX0_isDigit_3 : decode cX0_isDigit 3 = .ok (.if_icmp .lt 13, 3) := by decide +kernel
theorem dX0_isDigit_6 : decode cX0_isDigit 6 = .ok (.iload_n 0, 1) := by decide +kernel
theorem dX0_isDigit_7 : decode cX0_isDigit 7 = .ok (.bipush 57, 2) := by decide +kernel
theorem dX0_isDigit_9 : decode cX0_isDigit 9 = .ok (.if_icmp .gt 7, 3) := by decide +kernel
theorem dX0_isDigit_12 : decode cX0_isDigit 12 = .ok (.iconst 1, 1) := by decide +kernel
theorem dX0_isDigit_13 : decode cX0_isDigit 13 = .ok (.goto 4, 3) := by decide +kernel
theorem dX0_isDigit_16 : decode cX0_isDigit 16 = .ok (.iconst 0, 1) := by decide +kernel
theorem dX0_isDigit_17 : decode cX0_isDigit 17 = .ok (.ireturn, 1) := by decide +kernel
theorem dX0_numberAt_0 : decode cX0_numberAt 0 = .ok (.iconst 0, 1) := by decide +kernel
theorem dX0_numberAt_1 : decode cX0_numberAt 1 = .ok (.istore 4, 2) := by decide +kernel
theorem dX0_numberAt_3 : decode cX0_numberAt 3 = .ok (.iconst 0, 1) := by decide +kernel
theorem dX0_numberAt_4 : decode cX0_numberAt 4 = .ok (.istore 5, 2) := by decide +kernel
theorem dX0_numberAt_6 : decode cX0_numberAt 6 = .ok (.iload 5, 2) := by decide +kernel
theorem dX0_numberAt_8 : decode cX0_numberAt 8 = .ok (.iload_n 2, 1) := by decide +kernel
theorem dX0_numberAt_9 : decode cX0_numberAt 9 = .ok (.if_icmp .ge 29, 3) := by decide +kernel
theorem dX0_numberAt_12 : decode cX0_numberAt 12 = .ok (.bipush 10, 2) := by decide +kernel
theorem dX0_numberAt_14 : decode cX0_numberAt 14 = .ok (.iload 4, 2) := by decide +kernel
theorem dX0_numberAt_16 : decode cX0_numberAt 16 = .ok (.imul, 1) := by decide +kernel
theorem dX0_numberAt_17 : decode cX0_numberAt 17 = .ok (.aload_n 0, 1) := by decide +kernel
theorem dX0_numberAt_18 : decode cX0_numberAt 18 = .ok (.iload_n 1, 1) := by decide +kernel
theorem dX0_numberAt_19 : decode cX0_numberAt 19 = .ok (.iload 5, 2) := by decide +kernel
theorem dX0_numberAt_21 : decode cX0_numberAt 21 = .ok (.iadd, 1) := by decide +kernel
theorem dX0_numberAt_22 : decode cX0_numberAt 22 = .ok (.iload_n 3, 1) := by decide +kernel
theorem dX0_numberAt_23 : decode cX0_numberAt 23 = .ok (.invokevirtual 40, 3) := by decide +kernel
theorem dX0_numberAt_26 : decode cX0_numberAt 26 = .ok (.iadd, 1) := by decide +kernel
theorem dX0_numberAt_27 : decode cX0_numberAt 27 = .ok (.bipush 48, 2) := by decide +kernel
theorem dX0_numberAt_29 : decode cX0_numberAt 29 = .ok (.isub, 1) := by decide +kernel
theorem dX0_numberAt_30 : decode cX0_numberAt 30 = .ok (.istore 4, 2) := by decide +kernel
theorem dX0_numberAt_32 : decode cX0_numberAt 32 = .ok (.iinc 5 1, 3) := by decide +kernel
theorem dX0_numberAt_35 : decode cX0_numberAt 35 = .ok (.goto (-29), 3) := by decide +kernel
theorem dX0_numberAt_38 : decode cX0_numberAt 38 = .ok (.iload 4, 2) := by decide +kernel
theorem dX0_numberAt_40 : decode cX0_numberAt 40 = .ok (.ireturn, 1) := by decide +kernel
theorem dX1_init_0 : decode cX1_init 0 = .ok (.aload_n 0, 1) := by decide +kernel
theorem dX1_init_1 : decode cX1_init 1 = .ok (.invokespecial 3, 3) := by decide +kernel
theorem dX1_init_4 : decode cX1_init 4 = .ok (.aload_n 0, 1) := by decide +kernel
theorem dX1_init_5 : decode cX1_init 5 = .ok (.iconst 0, 1) := by decide +kernel
theorem dX1_init_6 : decode cX1_init 6 = .ok (.putfield 9, 3) := by decide +kernel
theorem dX1_init_9 : decode cX1_init 9 = .ok (.aload_n 0, 1) := by decide +kernel
theorem dX1_init_10 : decode cX1_init 10 = .ok (.iconst 0, 1) := by decide +kernel
theorem dX1_init_11 : decode cX1_init 11 = .ok (.putfield 15, 3) := by decide +kernel
theorem dX1_init_14 : decode cX1_init 14 = .ok (.aload_n 0, 1) := by decide +kernel
theorem dX1_init_15 : decode cX1_init 15 = .ok (.iconst (-1), 1) := by decide +kernel
theorem dX1_init_16 : decode cX1_init 16 = .ok (.putfield 18, 3) := by decide +kernel
theorem dX1_init_19 : decode cX1_init 19 = .ok (.aload_n 0, 1) := by decide +kernel
theorem dX1_init_20 : decode cX1_init 20 = .ok (.iconst 0, 1) := by decide +kernel
theorem dX1_init_21 : decode cX1_init 21 = .ok (.putfield 21, 3) := by decide +kernel
theorem dX1_init_24 : decode cX1_init 24 = .ok (.aload_n 0, 1) := by decide +kernel
theorem dX1_init_25 : decode cX1_init 25 = .ok (.iload_n 1, 1) := by decide +kernel
theorem dX1_init_26 : decode cX1_init 26 = .ok (.putfield 25, 3) := by decide +kernel
theorem dX1_init_29 : decode cX1_init 29 = .ok (.aload_n 0, 1) := by decide +kernel
theorem dX1_init_30 : decode cX1_init 30 = .ok (.iload_n 2, 1) := by decide +kernel
theorem dX1_init_31 : decode cX1_init 31 = .ok (.putfield 28, 3) := by decide +kernel
theorem dX1_init_34 : decode cX1_init 34 = .ok (.aload_n 0, 1) := by decide +kernel
theorem dX1_init_35 : decode cX1_init 35 = .ok (.iload_n 3, 1) := by decide +kernel
theorem dX1_init_36 : decode cX1_init 36 = .ok (.putfield 31, 3) := by decide +kernel
theorem dX1_init_39 : decode cX1_init 39 = .ok (.aload_n 0, 1) := by decide +kernel
theorem dX1_init_40 : decode cX1_init 40 = .ok (.iload 4, 2) := by decide +kernel
theorem dX1_init_42 : decode cX1_init 42 = .ok (.putfield 34, 3) := by decide +kernel
theorem dX1_init_45 : decode cX1_init 45 = .ok (.return_, 1) := by decide +kernel
theorem dX1_isOpen_0 : decode cX1_isOpen 0 = .ok (.aload_n 0, 1) := by decide +kernel
theorem dX1_isOpen_1 : decode cX1_isOpen 1 = .ok (.getfield 18, 3) := by decide +kernel
theorem dX1_isOpen_4 : decode cX1_isOpen 4 = .ok (.iconst (-1), 1) := by decide +kernel
theorem dX1_isOpen_5 : decode cX1_isOpen 5 = .ok (.if_icmp .ne 7, 3) := by decide +kernel
theorem dX1_isOpen_8 : decode cX1_isOpen 8 = .ok (.iconst 1, 1) := by decide +kernel
theorem dX1_isOpen_9 : decode cX1_isOpen 9 = .ok (.goto 4, 3) := by decide +kernel
theorem dX1_isOpen_12 : decode cX1_isOpen 12 = .ok (.iconst 0, 1) := by decide +kernel
theorem dX1_isOpen_13 : decode cX1_isOpen 13 = .ok (.ireturn, 1) := by decide +kernel
theorem dX1_isLateIn_0 : decode cX1_isLateIn 0 = .ok (.aload_n 0, 1) := by decide +kernel
theorem dX1_isLateIn_1 : decode cX1_isLateIn 1 = .ok (.invokevirtual 37, 3) := by decide +kernel
theorem dX1_isLateIn_4 : decode cX1_isLateIn 4 = .ok (.ifCond .eq 15, 3) := by decide +kernel
theorem dX1_isLateIn_7 : decode cX1_isLateIn 7 = .ok (.iload_n 1, 1) := by decide +kernel
theorem dX1_isLateIn_8 : decode cX1_isLateIn 8 = .ok (.aload_n 0, 1) := by decide +kernel
theorem dX1_isLateIn_9 : decode cX1_isLateIn 9 = .ok (.getfield 15, 3) := by decide +kernel
theorem dX1_isLateIn_12 : decode cX1_isLateIn 12 = .ok (.if_icmp .le 7, 3) := by decide +kernel
theorem dX1_isLateIn_15 : decode cX1_isLateIn 15 = .ok (.iconst 1, 1) := by decide +kernel
theorem dX1_isLateIn_16 : decode cX1_isLateIn 16 = .ok (.goto 4, 3) := by decide +kernel
theorem dX1_isLateIn_19 : decode cX1_isLateIn 19 = .ok (.iconst 0, 1) := by decide +kernel
theorem dX1_isLateIn_20 : decode cX1_isLateIn 20 = .ok (.ireturn, 1) := by decide +kernel
theorem dX1_stateIn_0 : decode cX1_stateIn 0 = .ok (.aload_n 0, 1) := by decide +kernel
theorem dX1_stateIn_1 : decode cX1_stateIn 1 = .ok (.invokevirtual 37, 3) := by decide +kernel
theorem dX1_stateIn_4 : decode cX1_stateIn 4 = .ok (.ifCond .ne 5, 3) := by decide +kernel
theorem dX1_stateIn_7 : decode cX1_stateIn 7 = .ok (.iconst 1, 1) := by decide +kernel
theorem dX1_stateIn_8 : decode cX1_stateIn 8 = .ok (.ireturn, 1) := by decide +kernel
theorem dX1_stateIn_9 : decode cX1_stateIn 9 = .ok (.aload_n 0, 1) := by decide +kernel
theorem dX1_stateIn_10 : decode cX1_stateIn 10 = .ok (.iload_n 1, 1) := by decide +kernel
theorem dX1_stateIn_11 : decode cX1_stateIn 11 = .ok (.invokevirtual 41, 3) := by decide +kernel
theorem dX1_stateIn_14 : decode cX1_stateIn 14 = .ok (.ifCond .eq 7, 3) := by decide +kernel
theorem dX1_stateIn_17 : decode cX1_stateIn 17 = .ok (.iconst 2, 1) := by decide +kernel
theorem dX1_stateIn_18 : decode cX1_stateIn 18 = .ok (.goto 4, 3) := by decide +kernel
theorem dX1_stateIn_21 : decode cX1_stateIn 21 = .ok (.iconst 0, 1) := by decide +kernel
theorem dX1_stateIn_22 : decode cX1_stateIn 22 = .ok (.ireturn, 1) := by decide +kernel
theorem dX1_isBetween_0 : decode cX1_isBetween 0 = .ok (.aload_n 0, 1) := by decide +kernel
theorem dX1_isBetween_1 : decode cX1_isBetween 1 = .ok (.getfield 25, 3) := by decide +kernel
theorem dX1_isBetween_4 : decode cX1_isBetween 4 = .ok (.iload_n 1, 1) := by decide +kernel
theorem dX1_isBetween_5 : decode cX1_isBetween 5 = .ok (.if_icmp .ne 15, 3) := by decide +kernel
theorem dX1_isBetween_8 : decode cX1_isBetween 8 = .ok (.aload_n 0, 1) := by decide +kernel
theorem dX1_isBetween_9 : decode cX1_isBetween 9 = .ok (.getfield 28, 3) := by decide +kernel
theorem dX1_isBetween_12 : decode cX1_isBetween 12 = .ok (.iload_n 2, 1) := by decide +kernel
theorem dX1_isBetween_13 : decode cX1_isBetween 13 = .ok (.if_icmp .ne 7, 3) := by decide +kernel
theorem dX1_isBetween_16 : decode cX1_isBetween 16 = .ok (.iconst 1, 1) := by decide +kernel
theorem dX1_isBetween_17 : decode cX1_isBetween 17 = .ok (.goto 4, 3) := by decide +kernel
theorem dX1_isBetween_20 : decode cX1_isBetween 20 = .ok (.iconst 0, 1) := by decide +kernel
theorem dX1_isBetween_21 : decode cX1_isBetween 21 = .ok (.ireturn, 1) := by decide +kernel
theorem dX1_winTime_0 : decode cX1_winTime 0 = .ok (.aload_n 0, 1) := by decide +kernel
theorem dX1_winTime_1 : decode cX1_winTime 1 = .ok (.getfield 21, 3) := by decide +kernel
theorem dX1_winTime_4 : decode cX1_winTime 4 = .ok (.ifCond .ne 18, 3) := by decide +kernel
theorem dX1_winTime_7 : decode cX1_winTime 7 = .ok (.aload_n 0, 1) := by decide +kernel
theorem dX1_winTime_8 : decode cX1_winTime 8 = .ok (.iconst 1, 1) := by decide +kernel
theorem dX1_winTime_9 : decode cX1_winTime 9 = .ok (.putfield 21, 3) := by decide +kernel
theorem dX1_winTime_12 : decode cX1_winTime 12 = .ok (.aload_n 0, 1) := by decide +kernel
theorem dX1_winTime_13 : decode cX1_winTime 13 = .ok (.dup, 1) := by decide +kernel
theorem dX1_winTime_14 : decode cX1_winTime 14 = .ok (.getfield 15, 3) := by decide +kernel
theorem dX1_winTime_17 : decode cX1_winTime 17 = .ok (.iload_n 1, 1) := by decide +kernel
theorem dX1_winTime_18 : decode cX1_winTime 18 = .ok (.iadd, 1) := by decide +kernel
theorem dX1_winTime_19 : decode cX1_winTime 19 = .ok (.putfield 15, 3) := by decide +kernel
theorem dX1_winTime_22 : decode cX1_winTime 22 = .ok (.return_, 1) := by decide +kernel
theorem dX2_init_0 : decode cX2_init 0 = .ok (.aload_n 0, 1) := by decide +kernel
theorem dX2_init_1 : decode cX2_init 1 = .ok (.invokespecial 3, 3) := by decide +kernel
theorem dX2_init_4 : decode cX2_init 4 = .ok (.aload_n 0, 1) := by decide +kernel
theorem dX2_init_5 : decode cX2_init 5 = .ok (.sipush 200, 3) := by decide +kernel
theorem dX2_init_8 : decode cX2_init 8 = .ok (.anewarray 9, 3) := by decide +kernel
theorem dX2_init_11 : decode cX2_init 11 = .ok (.putfield 11, 3) := by decide +kernel
theorem dX2_init_14 : decode cX2_init 14 = .ok (.aload_n 0, 1) := by decide +kernel
theorem dX2_init_15 : decode cX2_init 15 = .ok (.iconst 0, 1) := by decide +kernel
theorem dX2_init_16 : decode cX2_init 16 = .ok (.putfield 17, 3) := by decide +kernel
theorem dX2_init_19 : decode cX2_init 19 = .ok (.return_, 1) := by decide +kernel
theorem dX2_isFull_0 : decode cX2_isFull 0 = .ok (.aload_n 0, 1) := by decide +kernel
theorem dX2_isFull_1 : decode cX2_isFull 1 = .ok (.getfield 17, 3) := by decide +kernel
theorem dX2_isFull_4 : decode cX2_isFull 4 = .ok (.sipush 200, 3) := by decide +kernel
theorem dX2_isFull_7 : decode cX2_isFull 7 = .ok (.if_icmp .lt 7, 3) := by decide +kernel
theorem dX2_isFull_10 : decode cX2_isFull 10 = .ok (.iconst 1, 1) := by decide +kernel
theorem dX2_isFull_11 : decode cX2_isFull 11 = .ok (.goto 4, 3) := by decide +kernel
theorem dX2_isFull_14 : decode cX2_isFull 14 = .ok (.iconst 0, 1) := by decide +kernel
theorem dX2_isFull_15 : decode cX2_isFull 15 = .ok (.ireturn, 1) := by decide +kernel
theorem dX2_append_0 : decode cX2_append 0 = .ok (.aload_n 0, 1) := by decide +kernel
theorem dX2_append_1 : decode cX2_append 1 = .ok (.invokevirtual 21, 3) := by decide +kernel
theorem dX2_append_4 : decode cX2_append 4 = .ok (.ifCond .ne 23, 3) := by decide +kernel
theorem dX2_append_7 : decode cX2_append 7 = .ok (.aload_n 0, 1) := by decide +kernel
theorem dX2_append_8 : decode cX2_append 8 = .ok (.getfield 11, 3) := by decide +kernel
theorem dX2_append_11 : decode cX2_append 11 = .ok (.aload_n 0, 1) := by decide +kernel
theorem dX2_append_12 : decode cX2_append 12 = .ok (.getfield 17, 3) := by decide +kernel
theorem dX2_append_15 : decode cX2_append 15 = .ok (.aload_n 1, 1) := by decide +kernel
theorem dX2_append_16 : decode cX2_append 16 = .ok (.aastore, 1) := by decide +kernel
theorem dX2_append_17 : decode cX2_append 17 = .ok (.aload_n 0, 1) := by decide +kernel
theorem dX2_append_18 : decode cX2_append 18 = .ok (.dup, 1) := by decide +kernel
theorem dX2_append_19 : decode cX2_append 19 = .ok (.getfield 17, 3) := by decide +kernel
theorem dX2_append_22 : decode cX2_append 22 = .ok (.iconst 1, 1) := by decide +kernel
theorem dX2_append_23 : decode cX2_append 23 = .ok (.iadd, 1) := by decide +kernel
theorem dX2_append_24 : decode cX2_append 24 = .ok (.putfield 17, 3) := by decide +kernel
theorem dX2_append_27 : decode cX2_append 27 = .ok (.return_, 1) := by decide +kernel
theorem dX2_greatestWithin_0 : decode cX2_greatestWithin 0 = .ok (.aconst_null, 1) := by decide +kernel
theorem dX2_greatestWithin_1 : decode cX2_greatestWithin 1 = .ok (.astore 5, 2) := by decide +kernel
theorem dX2_greatestWithin_3 : decode cX2_greatestWithin 3 = .ok (.iconst 0, 1) := by decide +kernel
theorem dX2_greatestWithin_4 : decode cX2_greatestWithin 4 = .ok (.istore 6, 2) := by decide +kernel
theorem dX2_greatestWithin_6 : decode cX2_greatestWithin 6 = .ok (.iload 6, 2) := by decide +kernel
theorem dX2_greatestWithin_8 : decode cX2_greatestWithin 8 = .ok (.aload_n 0, 1) := by decide +kernel
theorem dX2_greatestWithin_9 : decode cX2_greatestWithin 9 = .ok (.getfield 17, 3) := by decide +kernel
theorem dX2_greatestWithin_12 : decode cX2_greatestWithin 12 = .ok (.if_icmp .ge 61, 3) := by decide +kernel
theorem dX2_greatestWithin_15 : decode cX2_greatestWithin 15 = .ok (.aload_n 0, 1) := by decide +kernel
theorem dX2_greatestWithin_16 : decode cX2_greatestWithin 16 = .ok (.getfield 11, 3) := by decide +kernel
theorem dX2_greatestWithin_19 : decode cX2_greatestWithin 19 = .ok (.iload 6, 2) := by decide +kernel
theorem dX2_greatestWithin_21 : decode cX2_greatestWithin 21 = .ok (.aaload, 1) := by decide +kernel
theorem dX2_greatestWithin_22 : decode cX2_greatestWithin 22 = .ok (.astore 7, 2) := by decide +kernel
theorem dX2_greatestWithin_24 : decode cX2_greatestWithin 24 = .ok (.aload 7, 2) := by decide +kernel
theorem dX2_greatestWithin_26 : decode cX2_greatestWithin 26 = .ok (.iload_n 1, 1) := by decide +kernel
theorem dX2_greatestWithin_27 : decode cX2_greatestWithin 27 = .ok (.iload_n 2, 1) := by decide +kernel
theorem dX2_greatestWithin_28 : decode cX2_greatestWithin 28 = .ok (.iload_n 3, 1) := by decide +kernel
theorem dX2_greatestWithin_29 : decode cX2_greatestWithin 29 = .ok (.invokestatic 25, 3) := by decide +kernel
theorem dX2_greatestWithin_32 : decode cX2_greatestWithin 32 = .ok (.ifCond .eq 35, 3) := by decide +kernel
theorem dX2_greatestWithin_35 : decode cX2_greatestWithin 35 = .ok (.aload 7, 2) := by decide +kernel
theorem dX2_greatestWithin_37 : decode cX2_greatestWithin 37 = .ok (.getfield 29, 3) := by decide +kernel
theorem dX2_greatestWithin_40 : decode cX2_greatestWithin 40 = .ok (.iload 4, 2) := by decide +kernel
theorem dX2_greatestWithin_42 : decode cX2_greatestWithin 42 = .ok (.if_icmp .gt 25, 3) := by decide +kernel
theorem dX2_greatestWithin_45 : decode cX2_greatestWithin 45 = .ok (.aload 5, 2) := by decide +kernel
theorem dX2_greatestWithin_47 : decode cX2_greatestWithin 47 = .ok (.ifnull 16, 3) := by decide +kernel
theorem dX2_greatestWithin_50 : decode cX2_greatestWithin 50 = .ok (.aload 7, 2) := by decide +kernel
theorem dX2_greatestWithin_52 : decode cX2_greatestWithin 52 = .ok (.getfield 29, 3) := by decide +kernel
theorem dX2_greatestWithin_55 : decode cX2_greatestWithin 55 = .ok (.aload 5, 2) := by decide +kernel
theorem dX2_greatestWithin_57 : decode cX2_greatestWithin 57 = .ok (.getfield 29, 3) := by decide +kernel
theorem dX2_greatestWithin_60 : decode cX2_greatestWithin 60 = .ok (.if_icmp .le 7, 3) := by decide +kernel
theorem dX2_greatestWithin_63 : decode cX2_greatestWithin 63 = .ok (.aload 7, 2) := by decide +kernel
theorem dX2_greatestWithin_65 : decode cX2_greatestWithin 65 = .ok (.astore 5, 2) := by decide +kernel
theorem dX2_greatestWithin_67 : decode cX2_greatestWithin 67 = .ok (.iinc 6 1, 3) := by decide +kernel
theorem dX2_greatestWithin_70 : decode cX2_greatestWithin 70 = .ok (.goto (-64), 3) := by decide +kernel
theorem dX2_greatestWithin_73 : decode cX2_greatestWithin 73 = .ok (.aload 5, 2) := by decide +kernel
theorem dX2_greatestWithin_75 : decode cX2_greatestWithin 75 = .ok (.areturn, 1) := by decide +kernel
theorem dX2_firstOpen_0 : decode cX2_firstOpen 0 = .ok (.iconst 0, 1) := by decide +kernel
theorem dX2_firstOpen_1 : decode cX2_firstOpen 1 = .ok (.istore 4, 2) := by decide +kernel
theorem dX2_firstOpen_3 : decode cX2_firstOpen 3 = .ok (.iload 4, 2) := by decide +kernel
theorem dX2_firstOpen_5 : decode cX2_firstOpen 5 = .ok (.aload_n 0, 1) := by decide +kernel
theorem dX2_firstOpen_6 : decode cX2_firstOpen 6 = .ok (.getfield 17, 3) := by decide +kernel
theorem dX2_firstOpen_9 : decode cX2_firstOpen 9 = .ok (.if_icmp .ge 33, 3) := by decide +kernel
theorem dX2_firstOpen_12 : decode cX2_firstOpen 12 = .ok (.aload_n 0, 1) := by decide +kernel
theorem dX2_firstOpen_13 : decode cX2_firstOpen 13 = .ok (.getfield 11, 3) := by decide +kernel
theorem dX2_firstOpen_16 : decode cX2_firstOpen 16 = .ok (.iload 4, 2) := by decide +kernel
theorem dX2_firstOpen_18 : decode cX2_firstOpen 18 = .ok (.aaload, 1) := by decide +kernel
theorem dX2_firstOpen_19 : decode cX2_firstOpen 19 = .ok (.iload_n 1, 1) := by decide +kernel
theorem dX2_firstOpen_20 : decode cX2_firstOpen 20 = .ok (.iload_n 2, 1) := by decide +kernel
theorem dX2_firstOpen_21 : decode cX2_firstOpen 21 = .ok (.iload_n 3, 1) := by decide +kernel
theorem dX2_firstOpen_22 : decode cX2_firstOpen 22 = .ok (.invokestatic 25, 3) := by decide +kernel
theorem dX2_firstOpen_25 : decode cX2_firstOpen 25 = .ok (.ifCond .eq 11, 3) := by decide +kernel
theorem dX2_firstOpen_28 : decode cX2_firstOpen 28 = .ok (.aload_n 0, 1) := by decide +kernel
theorem dX2_firstOpen_29 : decode cX2_firstOpen 29 = .ok (.getfield 11, 3) := by decide +kernel
theorem dX2_firstOpen_32 : decode cX2_firstOpen 32 = .ok (.iload 4, 2) := by decide +kernel
theorem dX2_firstOpen_34 : decode cX2_firstOpen 34 = .ok (.aaload, 1) := by decide +kernel
theorem dX2_firstOpen_35 : decode cX2_firstOpen 35 = .ok (.areturn, 1) := by decide +kernel
theorem dX2_firstOpen_36 : decode cX2_firstOpen 36 = .ok (.iinc 4 1, 3) := by decide +kernel
theorem dX2_firstOpen_39 : decode cX2_firstOpen 39 = .ok (.goto (-36), 3) := by decide +kernel
theorem dX2_firstOpen_42 : decode cX2_firstOpen 42 = .ok (.aconst_null, 1) := by decide +kernel
theorem dX2_firstOpen_43 : decode cX2_firstOpen 43 = .ok (.areturn, 1) := by decide +kernel
theorem dX2_isOpenFor_0 : decode cX2_isOpenFor 0 = .ok (.aload_n 0, 1) := by decide +kernel
theorem dX2_isOpenFor_1 : decode cX2_isOpenFor 1 = .ok (.invokevirtual 32, 3) := by decide +kernel
theorem dX2_isOpenFor_4 : decode cX2_isOpenFor 4 = .ok (.ifCond .eq 24, 3) := by decide +kernel
theorem dX2_isOpenFor_7 : decode cX2_isOpenFor 7 = .ok (.aload_n 0, 1) := by decide +kernel
theorem dX2_isOpenFor_8 : decode cX2_isOpenFor 8 = .ok (.getfield 35, 3) := by decide +kernel
theorem dX2_isOpenFor_11 : decode cX2_isOpenFor 11 = .ok (.iload_n 3, 1) := by decide +kernel
theorem dX2_isOpenFor_12 : decode cX2_isOpenFor 12 = .ok (.if_icmp .ne 16, 3) := by decide +kernel
theorem dX2_isOpenFor_15 : decode cX2_isOpenFor 15 = .ok (.aload_n 0, 1) := by decide +kernel
theorem dX2_isOpenFor_16 : decode cX2_isOpenFor 16 = .ok (.iload_n 1, 1) := by decide +kernel
theorem dX2_isOpenFor_17 : decode cX2_isOpenFor 17 = .ok (.iload_n 2, 1) := by decide +kernel
theorem dX2_isOpenFor_18 : decode cX2_isOpenFor 18 = .ok (.invokevirtual 38, 3) := by decide +kernel
theorem dX2_isOpenFor_21 : decode cX2_isOpenFor 21 = .ok (.ifCond .eq 7, 3) := by decide +kernel
theorem dX2_isOpenFor_24 : decode cX2_isOpenFor 24 = .ok (.iconst 1, 1) := by decide +kernel
theorem dX2_isOpenFor_25 : decode cX2_isOpenFor 25 = .ok (.goto 4, 3) := by decide +kernel
theorem dX2_isOpenFor_28 : decode cX2_isOpenFor 28 = .ok (.iconst 0, 1) := by decide +kernel
theorem dX2_isOpenFor_29 : decode cX2_isOpenFor 29 = .ok (.ireturn, 1) := by decide +kernel
theorem dX2_haveQuarrel_0 : decode cX2_haveQuarrel 0 = .ok (.iconst 0, 1) := by decide +kernel
theorem dX2_haveQuarrel_1 : decode cX2_haveQuarrel 1 = .ok (.istore 4, 2) := by decide +kernel
theorem dX2_haveQuarrel_3 : decode cX2_haveQuarrel 3 = .ok (.iload 4, 2) := by decide +kernel
theorem dX2_haveQuarrel_5 : decode cX2_haveQuarrel 5 = .ok (.aload_n 0, 1) := by decide +kernel
theorem dX2_haveQuarrel_6 : decode cX2_haveQuarrel 6 = .ok (.getfield 17, 3) := by decide +kernel
theorem dX2_haveQuarrel_9 : decode cX2_haveQuarrel 9 = .ok (.if_icmp .ge 49, 3) := by decide +kernel
theorem dX2_haveQuarrel_12 : decode cX2_haveQuarrel 12 = .ok (.aload_n 0, 1) := by decide +kernel
theorem dX2_haveQuarrel_13 : decode cX2_haveQuarrel 13 = .ok (.getfield 11, 3) := by decide +kernel
theorem dX2_haveQuarrel_16 : decode cX2_haveQuarrel 16 = .ok (.iload 4, 2) := by decide +kernel
theorem dX2_haveQuarrel_18 : decode cX2_haveQuarrel 18 = .ok (.aaload, 1) := by decide +kernel
theorem dX2_haveQuarrel_19 : decode cX2_haveQuarrel 19 = .ok (.astore 5, 2) := by decide +kernel
theorem dX2_haveQuarrel_21 : decode cX2_haveQuarrel 21 = .ok (.aload 5, 2) := by decide +kernel
theorem dX2_haveQuarrel_23 : decode cX2_haveQuarrel 23 = .ok (.iload_n 3, 1) := by decide +kernel
theorem dX2_haveQuarrel_24 : decode cX2_haveQuarrel 24 = .ok (.invokevirtual 42, 3) := by decide +kernel
theorem dX2_haveQuarrel_27 : decode cX2_haveQuarrel 27 = .ok (.ifCond .eq 25, 3) := by decide +kernel
theorem dX2_haveQuarrel_30 : decode cX2_haveQuarrel 30 = .ok (.aload 5, 2) := by decide +kernel
theorem dX2_haveQuarrel_32 : decode cX2_haveQuarrel 32 = .ok (.iload_n 1, 1) := by decide +kernel
theorem dX2_haveQuarrel_33 : decode cX2_haveQuarrel 33 = .ok (.iload_n 2, 1) := by decide +kernel
theorem dX2_haveQuarrel_34 : decode cX2_haveQuarrel 34 = .ok (.invokevirtual 38, 3) := by decide +kernel
theorem dX2_haveQuarrel_37 : decode cX2_haveQuarrel 37 = .ok (.ifCond .ne 13, 3) := by decide +kernel
theorem dX2_haveQuarrel_40 : decode cX2_haveQuarrel 40 = .ok (.aload 5, 2) := by decide +kernel
theorem dX2_haveQuarrel_42 : decode cX2_haveQuarrel 42 = .ok (.iload_n 2, 1) := by decide +kernel
theorem dX2_haveQuarrel_43 : decode cX2_haveQuarrel 43 = .ok (.iload_n 1, 1) := by decide +kernel
theorem dX2_haveQuarrel_44 : decode cX2_haveQuarrel 44 = .ok (.invokevirtual 38, 3) := by decide +kernel
theorem dX2_haveQuarrel_47 : decode cX2_haveQuarrel 47 = .ok (.ifCond .eq 5, 3) := by decide +kernel
theorem dX2_haveQuarrel_50 : decode cX2_haveQuarrel 50 = .ok (.iconst 1, 1) := by decide +kernel
theorem dX2_haveQuarrel_51 : decode cX2_haveQuarrel 51 = .ok (.ireturn, 1) := by decide +kernel
theorem dX2_haveQuarrel_52 : decode cX2_haveQuarrel 52 = .ok (.iinc 4 1, 3) := by decide +kernel
theorem dX2_haveQuarrel_55 : decode cX2_haveQuarrel 55 = .ok (.goto (-52), 3) := by decide +kernel
theorem dX2_haveQuarrel_58 : decode cX2_haveQuarrel 58 = .ok (.iconst 0, 1) := by decide +kernel
theorem dX2_haveQuarrel_59 : decode cX2_haveQuarrel 59 = .ok (.ireturn, 1) := by decide +kernel
theorem dX2_pass_0 : decode cX2_pass 0 = .ok (.iconst 0, 1) := by decide +kernel
theorem dX2_pass_1 : decode cX2_pass 1 = .ok (.istore_n 3, 1) := by decide +kernel
theorem dX2_pass_2 : decode cX2_pass 2 = .ok (.iload_n 3, 1) := by decide +kernel
theorem dX2_pass_3 : decode cX2_pass 3 = .ok (.aload_n 0, 1) := by decide +kernel
theorem dX2_pass_4 : decode cX2_pass 4 = .ok (.getfield 17, 3) := by decide +kernel
theorem dX2_pass_7 : decode cX2_pass 7 = .ok (.if_icmp .ge 47, 3) := by decide +kernel
theorem dX2_pass_10 : decode cX2_pass 10 = .ok (.aload_n 0, 1) := by decide +kernel
theorem dX2_pass_11 : decode cX2_pass 11 = .ok (.getfield 11, 3) := by decide +kernel
theorem dX2_pass_14 : decode cX2_pass 14 = .ok (.iload_n 3, 1) := by decide +kernel
theorem dX2_pass_15 : decode cX2_pass 15 = .ok (.aaload, 1) := by decide +kernel
theorem dX2_pass_16 : decode cX2_pass 16 = .ok (.astore 4, 2) := by decide +kernel
theorem dX2_pass_18 : decode cX2_pass 18 = .ok (.aload 4, 2) := by decide +kernel
theorem dX2_pass_20 : decode cX2_pass 20 = .ok (.getfield 46, 3) := by decide +kernel
theorem dX2_pass_23 : decode cX2_pass 23 = .ok (.iload_n 1, 1) := by decide +kernel
theorem dX2_pass_24 : decode cX2_pass 24 = .ok (.if_icmp .ne 9, 3) := by decide +kernel
theorem dX2_pass_27 : decode cX2_pass 27 = .ok (.aload 4, 2) := by decide +kernel
theorem dX2_pass_29 : decode cX2_pass 29 = .ok (.iload_n 2, 1) := by decide +kernel
theorem dX2_pass_30 : decode cX2_pass 30 = .ok (.putfield 46, 3) := by decide +kernel
theorem dX2_pass_33 : decode cX2_pass 33 = .ok (.aload 4, 2) := by decide +kernel
theorem dX2_pass_35 : decode cX2_pass 35 = .ok (.getfield 49, 3) := by decide +kernel
theorem dX2_pass_38 : decode cX2_pass 38 = .ok (.iload_n 1, 1) := by decide +kernel
theorem dX2_pass_39 : decode cX2_pass 39 = .ok (.if_icmp .ne 9, 3) := by decide +kernel
theorem dX2_pass_42 : decode cX2_pass 42 = .ok (.aload 4, 2) := by decide +kernel
theorem dX2_pass_44 : decode cX2_pass 44 = .ok (.iload_n 2, 1) := by decide +kernel
theorem dX2_pass_45 : decode cX2_pass 45 = .ok (.putfield 49, 3) := by decide +kernel
theorem dX2_pass_48 : decode cX2_pass 48 = .ok (.iinc 3 1, 3) := by decide +kernel
theorem dX2_pass_51 : decode cX2_pass 51 = .ok (.goto (-49), 3) := by decide +kernel
theorem dX2_pass_54 : decode cX2_pass 54 = .ok (.return_, 1) := by decide +kernel
theorem dX2_openOnes_0 : decode cX2_openOnes 0 = .ok (.iconst 0, 1) := by decide +kernel
theorem dX2_openOnes_1 : decode cX2_openOnes 1 = .ok (.istore_n 3, 1) := by decide +kernel
theorem dX2_openOnes_2 : decode cX2_openOnes 2 = .ok (.iconst 0, 1) := by decide +kernel
theorem dX2_openOnes_3 : decode cX2_openOnes 3 = .ok (.istore 4, 2) := by decide +kernel
theorem dX2_openOnes_5 : decode cX2_openOnes 5 = .ok (.iload 4, 2) := by decide +kernel
theorem dX2_openOnes_7 : decode cX2_openOnes 7 = .ok (.aload_n 0, 1) := by decide +kernel
theorem dX2_openOnes_8 : decode cX2_openOnes 8 = .ok (.getfield 17, 3) := by decide +kernel
theorem dX2_openOnes_11 : decode cX2_openOnes 11 = .ok (.if_icmp .ge 57, 3) := by decide +kernel
theorem dX2_openOnes_14 : decode cX2_openOnes 14 = .ok (.aload_n 0, 1) := by decide +kernel
theorem dX2_openOnes_15 : decode cX2_openOnes 15 = .ok (.getfield 11, 3) := by decide +kernel
theorem dX2_openOnes_18 : decode cX2_openOnes 18 = .ok (.iload 4, 2) := by decide +kernel
theorem dX2_openOnes_20 : decode cX2_openOnes 20 = .ok (.aaload, 1) := by decide +kernel
theorem dX2_openOnes_21 : decode cX2_openOnes 21 = .ok (.astore 5, 2) := by decide +kernel
theorem dX2_openOnes_23 : decode cX2_openOnes 23 = .ok (.aload 5, 2) := by decide +kernel
theorem dX2_openOnes_25 : decode cX2_openOnes 25 = .ok (.invokevirtual 32, 3) := by decide +kernel
theorem dX2_openOnes_28 : decode cX2_openOnes 28 = .ok (.ifCond .eq 34, 3) := by decide +kernel
theorem dX2_openOnes_31 : decode cX2_openOnes 31 = .ok (.iload_n 1, 1) := by decide +kernel
theorem dX2_openOnes_32 : decode cX2_openOnes 32 = .ok (.iconst (-1), 1) := by decide +kernel
theorem dX2_openOnes_33 : decode cX2_openOnes 33 = .ok (.if_icmp .eq 12, 3) := by decide +kernel
theorem dX2_openOnes_36 : decode cX2_openOnes 36 = .ok (.aload 5, 2) := by decide +kernel
theorem dX2_openOnes_38 : decode cX2_openOnes 38 = .ok (.getfield 46, 3) := by decide +kernel
theorem dX2_openOnes_41 : decode cX2_openOnes 41 = .ok (.iload_n 1, 1) := by decide +kernel
theorem dX2_openOnes_42 : decode cX2_openOnes 42 = .ok (.if_icmp .ne 20, 3) := by decide +kernel
theorem dX2_openOnes_45 : decode cX2_openOnes 45 = .ok (.iload_n 2, 1) := by decide +kernel
theorem dX2_openOnes_46 : decode cX2_openOnes 46 = .ok (.iconst (-1), 1) := by decide +kernel
theorem dX2_openOnes_47 : decode cX2_openOnes 47 = .ok (.if_icmp .eq 12, 3) := by decide +kernel
theorem dX2_openOnes_50 : decode cX2_openOnes 50 = .ok (.aload 5, 2) := by decide +kernel
theorem dX2_openOnes_52 : decode cX2_openOnes 52 = .ok (.getfield 49, 3) := by decide +kernel
theorem dX2_openOnes_55 : decode cX2_openOnes 55 = .ok (.iload_n 2, 1) := by decide +kernel
theorem dX2_openOnes_56 : decode cX2_openOnes 56 = .ok (.if_icmp .ne 6, 3) := by decide +kernel
theorem dX2_openOnes_59 : decode cX2_openOnes 59 = .ok (.iinc 3 1, 3) := by decide +kernel
theorem dX2_openOnes_62 : decode cX2_openOnes 62 = .ok (.iinc 4 1, 3) := by decide +kernel
theorem dX2_openOnes_65 : decode cX2_openOnes 65 = .ok (.goto (-60), 3) := by decide +kernel
theorem dX2_openOnes_68 : decode cX2_openOnes 68 = .ok (.iload_n 3, 1) := by decide +kernel
theorem dX2_openOnes_69 : decode cX2_openOnes 69 = .ok (.ireturn, 1) := by decide +kernel
theorem dX2_lateOnesOf_0 : decode cX2_lateOnesOf 0 = .ok (.iconst 0, 1) := by decide +kernel
theorem dX2_lateOnesOf_1 : decode cX2_lateOnesOf 1 = .ok (.istore_n 3, 1) := by decide +kernel
theorem dX2_lateOnesOf_2 : decode cX2_lateOnesOf 2 = .ok (.iconst 0, 1) := by decide +kernel
theorem dX2_lateOnesOf_3 : decode cX2_lateOnesOf 3 = .ok (.istore 4, 2) := by decide +kernel
theorem dX2_lateOnesOf_5 : decode cX2_lateOnesOf 5 = .ok (.iload 4, 2) := by decide +kernel
theorem dX2_lateOnesOf_7 : decode cX2_lateOnesOf 7 = .ok (.aload_n 0, 1) := by decide +kernel
theorem dX2_lateOnesOf_8 : decode cX2_lateOnesOf 8 = .ok (.getfield 17, 3) := by decide +kernel
theorem dX2_lateOnesOf_11 : decode cX2_lateOnesOf 11 = .ok (.if_icmp .ge 40, 3) := by decide +kernel
theorem dX2_lateOnesOf_14 : decode cX2_lateOnesOf 14 = .ok (.aload_n 0, 1) := by decide +kernel
theorem dX2_lateOnesOf_15 : decode cX2_lateOnesOf 15 = .ok (.getfield 11, 3) := by decide +kernel
theorem dX2_lateOnesOf_18 : decode cX2_lateOnesOf 18 = .ok (.iload 4, 2) := by decide +kernel
theorem dX2_lateOnesOf_20 : decode cX2_lateOnesOf 20 = .ok (.aaload, 1) := by decide +kernel
theorem dX2_lateOnesOf_21 : decode cX2_lateOnesOf 21 = .ok (.iload_n 2, 1) := by decide +kernel
theorem dX2_lateOnesOf_22 : decode cX2_lateOnesOf 22 = .ok (.invokevirtual 42, 3) := by decide +kernel
theorem dX2_lateOnesOf_25 : decode cX2_lateOnesOf 25 = .ok (.ifCond .eq 20, 3) := by decide +kernel
theorem dX2_lateOnesOf_28 : decode cX2_lateOnesOf 28 = .ok (.aload_n 0, 1) := by decide +kernel
theorem dX2_lateOnesOf_29 : decode cX2_lateOnesOf 29 = .ok (.getfield 11, 3) := by decide +kernel
theorem dX2_lateOnesOf_32 : decode cX2_lateOnesOf 32 = .ok (.iload 4, 2) := by decide +kernel
theorem dX2_lateOnesOf_34 : decode cX2_lateOnesOf 34 = .ok (.aaload, 1) := by decide +kernel
theorem dX2_lateOnesOf_35 : decode cX2_lateOnesOf 35 = .ok (.getfield 46, 3) := by decide +kernel
theorem dX2_lateOnesOf_38 : decode cX2_lateOnesOf 38 = .ok (.iload_n 1, 1) := by decide +kernel
theorem dX2_lateOnesOf_39 : decode cX2_lateOnesOf 39 = .ok (.if_icmp .ne 6, 3) := by decide +kernel
theorem dX2_lateOnesOf_42 : decode cX2_lateOnesOf 42 = .ok (.iinc 3 1, 3) := by decide +kernel
theorem dX2_lateOnesOf_45 : decode cX2_lateOnesOf 45 = .ok (.iinc 4 1, 3) := by decide +kernel
theorem dX2_lateOnesOf_48 : decode cX2_lateOnesOf 48 = .ok (.goto (-43), 3) := by decide +kernel
theorem dX2_lateOnesOf_51 : decode cX2_lateOnesOf 51 = .ok (.iload_n 3, 1) := by decide +kernel
theorem dX2_lateOnesOf_52 : decode cX2_lateOnesOf 52 = .ok (.ireturn, 1) := by decide +kernel
theorem dX3_init_0 : decode cX3_init 0 = .ok (.aload_n 0, 1) := by decide +kernel
theorem dX3_init_1 : decode cX3_init 1 = .ok (.invokespecial 1, 3) := by decide +kernel
theorem dX3_init_4 : decode cX3_init 4 = .ok (.aload_n 0, 1) := by decide +kernel
theorem dX3_init_5 : decode cX3_init 5 = .ok (.iconst 1, 1) := by decide +kernel
theorem dX3_init_6 : decode cX3_init 6 = .ok (.putfield 7, 3) := by decide +kernel
theorem dX3_init_9 : decode cX3_init 9 = .ok (.aload_n 0, 1) := by decide +kernel
theorem dX3_init_10 : decode cX3_init 10 = .ok (.iconst 0, 1) := by decide +kernel
theorem dX3_init_11 : decode cX3_init 11 = .ok (.putfield 13, 3) := by decide +kernel
theorem dX3_init_14 : decode cX3_init 14 = .ok (.aload_n 0, 1) := by decide +kernel
theorem dX3_init_15 : decode cX3_init 15 = .ok (.iconst 0, 1) := by decide +kernel
theorem dX3_init_16 : decode cX3_init 16 = .ok (.putfield 17, 3) := by decide +kernel
theorem dX3_init_19 : decode cX3_init 19 = .ok (.aload_n 0, 1) := by decide +kernel
theorem dX3_init_20 : decode cX3_init 20 = .ok (.iload_n 1, 1) := by decide +kernel
theorem dX3_init_21 : decode cX3_init 21 = .ok (.putfield 20, 3) := by decide +kernel
theorem dX3_init_24 : decode cX3_init 24 = .ok (.return_, 1) := by decide +kernel
theorem dX3_isPartnerOf_0 : decode cX3_isPartnerOf 0 = .ok (.aload_n 0, 1) := by decide +kernel
theorem dX3_isPartnerOf_1 : decode cX3_isPartnerOf 1 = .ok (.getfield 17, 3) := by decide +kernel
theorem dX3_isPartnerOf_4 : decode cX3_isPartnerOf 4 = .ok (.iconst 1, 1) := by decide +kernel
theorem dX3_isPartnerOf_5 : decode cX3_isPartnerOf 5 = .ok (.iload_n 1, 1) := by decide +kernel
theorem dX3_isPartnerOf_6 : decode cX3_isPartnerOf 6 = .ok (.ishl, 1) := by decide +kernel
theorem dX3_isPartnerOf_7 : decode cX3_isPartnerOf 7 = .ok (.iand, 1) := by decide +kernel
theorem dX3_isPartnerOf_8 : decode cX3_isPartnerOf 8 = .ok (.ifCond .eq 7, 3) := by decide +kernel
theorem dX3_isPartnerOf_11 : decode cX3_isPartnerOf 11 = .ok (.iconst 1, 1) := by decide +kernel
theorem dX3_isPartnerOf_12 : decode cX3_isPartnerOf 12 = .ok (.goto 4, 3) := by decide +kernel
theorem dX3_isPartnerOf_15 : decode cX3_isPartnerOf 15 = .ok (.iconst 0, 1) := by decide +kernel
theorem dX3_isPartnerOf_16 : decode cX3_isPartnerOf 16 = .ok (.ireturn, 1) := by decide +kernel
theorem dX3_addPartner_0 : decode cX3_addPartner 0 = .ok (.aload_n 0, 1) := by decide +kernel
theorem dX3_addPartner_1 : decode cX3_addPartner 1 = .ok (.dup, 1) := by decide +kernel
theorem dX3_addPartner_2 : decode cX3_addPartner 2 = .ok (.getfield 17, 3) := by decide +kernel
theorem dX3_addPartner_5 : decode cX3_addPartner 5 = .ok (.iconst 1, 1) := by decide +kernel
theorem dX3_addPartner_6 : decode cX3_addPartner 6 = .ok (.iload_n 1, 1) := by decide +kernel
theorem dX3_addPartner_7 : decode cX3_addPartner 7 = .ok (.ishl, 1) := by decide +kernel
theorem dX3_addPartner_8 : decode cX3_addPartner 8 = .ok (.ior, 1) := by decide +kernel
theorem dX3_addPartner_9 : decode cX3_addPartner 9 = .ok (.putfield 17, 3) := by decide +kernel
theorem dX3_addPartner_12 : decode cX3_addPartner 12 = .ok (.return_, 1) := by decide +kernel
theorem dX3_dropPartner_0 : decode cX3_dropPartner 0 = .ok (.aload_n 0, 1) := by decide +kernel
theorem dX3_dropPartner_1 : decode cX3_dropPartner 1 = .ok (.dup, 1) := by decide +kernel
theorem dX3_dropPartner_2 : decode cX3_dropPartner 2 = .ok (.getfield 17, 3) := by decide +kernel
theorem dX3_dropPartner_5 : decode cX3_dropPartner 5 = .ok (.iconst 1, 1) := by decide +kernel
theorem dX3_dropPartner_6 : decode cX3_dropPartner 6 = .ok (.iload_n 1, 1) := by decide +kernel
theorem dX3_dropPartner_7 : decode cX3_dropPartner 7 = .ok (.ishl, 1) := by decide +kernel
theorem dX3_dropPartner_8 : decode cX3_dropPartner 8 = .ok (.iconst (-1), 1) := by decide +kernel
theorem dX3_dropPartner_9 : decode cX3_dropPartner 9 = .ok (.ixor, 1) := by decide +kernel
theorem dX3_dropPartner_10 : decode cX3_dropPartner 10 = .ok (.iand, 1) := by decide +kernel
theorem dX3_dropPartner_11 : decode cX3_dropPartner 11 = .ok (.putfield 17, 3) := by decide +kernel
theorem dX3_dropPartner_14 : decode cX3_dropPartner 14 = .ok (.return_, 1) := by decide +kernel
theorem dX4_init_0 : decode cX4_init 0 = .ok (.aload_n 0, 1) := by decide +kernel
theorem dX4_init_1 : decode cX4_init 1 = .ok (.invokespecial 3, 3) := by decide +kernel
theorem dX4_init_4 : decode cX4_init 4 = .ok (.aload_n 0, 1) := by decide +kernel
theorem dX4_init_5 : decode cX4_init 5 = .ok (.bipush 8, 2) := by decide +kernel
theorem dX4_init_7 : decode cX4_init 7 = .ok (.newarray .int, 2) := by decide +kernel
theorem dX4_init_9 : decode cX4_init 9 = .ok (.putfield 11, 3) := by decide +kernel
theorem dX4_init_12 : decode cX4_init 12 = .ok (.aload_n 0, 1) := by decide +kernel
theorem dX4_init_13 : decode cX4_init 13 = .ok (.bipush 8, 2) := by decide +kernel
theorem dX4_init_15 : decode cX4_init 15 = .ok (.newarray .int, 2) := by decide +kernel
theorem dX4_init_17 : decode cX4_init 17 = .ok (.putfield 15, 3) := by decide +kernel
theorem dX4_init_20 : decode cX4_init 20 = .ok (.aload_n 0, 1) := by decide +kernel
theorem dX4_init_21 : decode cX4_init 21 = .ok (.bipush 8, 2) := by decide +kernel
theorem dX4_init_23 : decode cX4_init 23 = .ok (.newarray .int, 2) := by decide +kernel
theorem dX4_init_25 : decode cX4_init 25 = .ok (.putfield 18, 3) := by decide +kernel
theorem dX4_init_28 : decode cX4_init 28 = .ok (.aload_n 0, 1) := by decide +kernel
theorem dX4_init_29 : decode cX4_init 29 = .ok (.iconst 0, 1) := by decide +kernel
theorem dX4_init_30 : decode cX4_init 30 = .ok (.putfield 21, 3) := by decide +kernel
theorem dX4_init_33 : decode cX4_init 33 = .ok (.aload_n 0, 1) := by decide +kernel
theorem dX4_init_34 : decode cX4_init 34 = .ok (.bipush 6, 2) := by decide +kernel
theorem dX4_init_36 : decode cX4_init 36 = .ok (.newarray .int, 2) := by decide +kernel
theorem dX4_init_38 : decode cX4_init 38 = .ok (.putfield 25, 3) := by decide +kernel
theorem dX4_init_41 : decode cX4_init 41 = .ok (.aload_n 0, 1) := by decide +kernel
theorem dX4_init_42 : decode cX4_init 42 = .ok (.bipush 6, 2) := by decide +kernel
theorem dX4_init_44 : decode cX4_init 44 = .ok (.newarray .int, 2) := by decide +kernel
theorem dX4_init_46 : decode cX4_init 46 = .ok (.putfield 28, 3) := by decide +kernel
theorem dX4_init_49 : decode cX4_init 49 = .ok (.aload_n 0, 1) := by decide +kernel
theorem dX4_init_50 : decode cX4_init 50 = .ok (.iconst 0, 1) := by decide +kernel
theorem dX4_init_51 : decode cX4_init 51 = .ok (.putfield 31, 3) := by decide +kernel
theorem dX4_init_54 : decode cX4_init 54 = .ok (.aload_n 0, 1) := by decide +kernel
theorem dX4_init_55 : decode cX4_init 55 = .ok (.bipush 7, 2) := by decide +kernel
theorem dX4_init_57 : decode cX4_init 57 = .ok (.sipush 256, 3) := by decide +kernel
theorem dX4_init_60 : decode cX4_init 60 = .ok (.multianewarray 34 2, 4) := by decide +kernel
theorem dX4_init_64 : decode cX4_init 64 = .ok (.putfield 36, 3) := by decide +kernel
theorem dX4_init_67 : decode cX4_init 67 = .ok (.aload_n 0, 1) := by decide +kernel
theorem dX4_init_68 : decode cX4_init 68 = .ok (.bipush 6, 2) := by decide +kernel
theorem dX4_init_70 : decode cX4_init 70 = .ok (.newarray .int, 2) := by decide +kernel
theorem dX4_init_72 : decode cX4_init 72 = .ok (.putfield 39, 3) := by decide +kernel
theorem dX4_init_75 : decode cX4_init 75 = .ok (.return_, 1) := by decide +kernel
theorem dX4_clear_0 : decode cX4_clear 0 = .ok (.aload_n 0, 1) := by decide +kernel
theorem dX4_clear_1 : decode cX4_clear 1 = .ok (.iconst 0, 1) := by decide +kernel
theorem dX4_clear_2 : decode cX4_clear 2 = .ok (.putfield 21, 3) := by decide +kernel
theorem dX4_clear_5 : decode cX4_clear 5 = .ok (.aload_n 0, 1) := by decide +kernel
theorem dX4_clear_6 : decode cX4_clear 6 = .ok (.iconst 0, 1) := by decide +kernel
theorem dX4_clear_7 : decode cX4_clear 7 = .ok (.putfield 31, 3) := by decide +kernel
theorem dX4_clear_10 : decode cX4_clear 10 = .ok (.return_, 1) := by decide +kernel
theorem dX4_addTreasure_0 : decode cX4_addTreasure 0 = .ok (.aload_n 0, 1) := by decide +kernel
theorem dX4_addTreasure_1 : decode cX4_addTreasure 1 = .ok (.getfield 21, 3) := by decide +kernel
theorem dX4_addTreasure_4 : decode cX4_addTreasure 4 = .ok (.bipush 8, 2) := by decide +kernel
theorem dX4_addTreasure_6 : decode cX4_addTreasure 6 = .ok (.if_icmp .ge 49, 3) := by decide +kernel
theorem dX4_addTreasure_9 : decode cX4_addTreasure 9 = .ok (.aload_n 0, 1) := by decide +kernel
theorem dX4_addTreasure_10 : decode cX4_addTreasure 10 = .ok (.getfield 11, 3) := by decide +kernel
theorem dX4_addTreasure_13 : decode cX4_addTreasure 13 = .ok (.aload_n 0, 1) := by decide +kernel
theorem dX4_addTreasure_14 : decode cX4_addTreasure 14 = .ok (.getfield 21, 3) := by decide +kernel
theorem dX4_addTreasure_17 : decode cX4_addTreasure 17 = .ok (.iload_n 1, 1) := by decide +kernel
theorem dX4_addTreasure_18 : decode cX4_addTreasure 18 = .ok (.iastore, 1) := by decide +kernel
theorem dX4_addTreasure_19 : decode cX4_addTreasure 19 = .ok (.aload_n 0, 1) := by decide +kernel
theorem dX4_addTreasure_20 : decode cX4_addTreasure 20 = .ok (.getfield 15, 3) := by decide +kernel
theorem dX4_addTreasure_23 : decode cX4_addTreasure 23 = .ok (.aload_n 0, 1) := by decide +kernel
theorem dX4_addTreasure_24 : decode cX4_addTreasure 24 = .ok (.getfield 21, 3) := by decide +kernel
theorem dX4_addTreasure_27 : decode cX4_addTreasure 27 = .ok (.aload_n 2, 1) := by decide +kernel
theorem dX4_addTreasure_28 : decode cX4_addTreasure 28 = .ok (.getfield 42, 3) := by decide +kernel
theorem dX4_addTreasure_31 : decode cX4_addTreasure 31 = .ok (.iastore, 1) := by decide +kernel
theorem dX4_addTreasure_32 : decode cX4_addTreasure 32 = .ok (.aload_n 0, 1) := by decide +kernel
theorem dX4_addTreasure_33 : decode cX4_addTreasure 33 = .ok (.getfield 18, 3) := by decide +kernel
theorem dX4_addTreasure_36 : decode cX4_addTreasure 36 = .ok (.aload_n 0, 1) := by decide +kernel
theorem dX4_addTreasure_37 : decode cX4_addTreasure 37 = .ok (.getfield 21, 3) := by decide +kernel
theorem dX4_addTreasure_40 : decode cX4_addTreasure 40 = .ok (.aload_n 2, 1) := by decide +kernel
theorem dX4_addTreasure_41 : decode cX4_addTreasure 41 = .ok (.getfield 47, 3) := by decide +kernel
theorem dX4_addTreasure_44 : decode cX4_addTreasure 44 = .ok (.iastore, 1) := by decide +kernel
theorem dX4_addTreasure_45 : decode cX4_addTreasure 45 = .ok (.aload_n 0, 1) := by decide +kernel
theorem dX4_addTreasure_46 : decode cX4_addTreasure 46 = .ok (.dup, 1) := by decide +kernel
theorem dX4_addTreasure_47 : decode cX4_addTreasure 47 = .ok (.getfield 21, 3) := by decide +kernel
theorem dX4_addTreasure_50 : decode cX4_addTreasure 50 = .ok (.iconst 1, 1) := by decide +kernel
theorem dX4_addTreasure_51 : decode cX4_addTreasure 51 = .ok (.iadd, 1) := by decide +kernel
theorem dX4_addTreasure_52 : decode cX4_addTreasure 52 = .ok (.putfield 21, 3) := by decide +kernel
theorem dX4_addTreasure_55 : decode cX4_addTreasure 55 = .ok (.return_, 1) := by decide +kernel
theorem dX4_addDebt_0 : decode cX4_addDebt 0 = .ok (.aload_n 0, 1) := by decide +kernel
theorem dX4_addDebt_1 : decode cX4_addDebt 1 = .ok (.getfield 31, 3) := by decide +kernel
theorem dX4_addDebt_4 : decode cX4_addDebt 4 = .ok (.bipush 6, 2) := by decide +kernel
theorem dX4_addDebt_6 : decode cX4_addDebt 6 = .ok (.if_icmp .ge 39, 3) := by decide +kernel
theorem dX4_addDebt_9 : decode cX4_addDebt 9 = .ok (.aload_n 0, 1) := by decide +kernel
theorem dX4_addDebt_10 : decode cX4_addDebt 10 = .ok (.getfield 25, 3) := by decide +kernel
theorem dX4_addDebt_13 : decode cX4_addDebt 13 = .ok (.aload_n 0, 1) := by decide +kernel
theorem dX4_addDebt_14 : decode cX4_addDebt 14 = .ok (.getfield 31, 3) := by decide +kernel
theorem dX4_addDebt_17 : decode cX4_addDebt 17 = .ok (.aload_n 1, 1) := by decide +kernel
theorem dX4_addDebt_18 : decode cX4_addDebt 18 = .ok (.getfield 50, 3) := by decide +kernel
theorem dX4_addDebt_21 : decode cX4_addDebt 21 = .ok (.iastore, 1) := by decide +kernel
theorem dX4_addDebt_22 : decode cX4_addDebt 22 = .ok (.aload_n 0, 1) := by decide +kernel
theorem dX4_addDebt_23 : decode cX4_addDebt 23 = .ok (.getfield 28, 3) := by decide +kernel
theorem dX4_addDebt_26 : decode cX4_addDebt 26 = .ok (.aload_n 0, 1) := by decide +kernel
theorem dX4_addDebt_27 : decode cX4_addDebt 27 = .ok (.getfield 31, 3) := by decide +kernel
theorem dX4_addDebt_30 : decode cX4_addDebt 30 = .ok (.aload_n 1, 1) := by decide +kernel
theorem dX4_addDebt_31 : decode cX4_addDebt 31 = .ok (.getfield 53, 3) := by decide +kernel
theorem dX4_addDebt_34 : decode cX4_addDebt 34 = .ok (.iastore, 1) := by decide +kernel
theorem dX4_addDebt_35 : decode cX4_addDebt 35 = .ok (.aload_n 0, 1) := by decide +kernel
theorem dX4_addDebt_36 : decode cX4_addDebt 36 = .ok (.dup, 1) := by decide +kernel
theorem dX4_addDebt_37 : decode cX4_addDebt 37 = .ok (.getfield 31, 3) := by decide +kernel
theorem dX4_addDebt_40 : decode cX4_addDebt 40 = .ok (.iconst 1, 1) := by decide +kernel
theorem dX4_addDebt_41 : decode cX4_addDebt 41 = .ok (.iadd, 1) := by decide +kernel
theorem dX4_addDebt_42 : decode cX4_addDebt 42 = .ok (.putfield 31, 3) := by decide +kernel
theorem dX4_addDebt_45 : decode cX4_addDebt 45 = .ok (.return_, 1) := by decide +kernel
theorem dX4_solve_0 : decode cX4_solve 0 = .ok (.aload_n 0, 1) := by decide +kernel
theorem dX4_solve_1 : decode cX4_solve 1 = .ok (.invokevirtual 56, 3) := by decide +kernel
theorem dX4_solve_4 : decode cX4_solve 4 = .ok (.iconst 0, 1) := by decide +kernel
theorem dX4_solve_5 : decode cX4_solve 5 = .ok (.istore_n 1, 1) := by decide +kernel
theorem dX4_solve_6 : decode cX4_solve 6 = .ok (.iconst 0, 1) := by decide +kernel
theorem dX4_solve_7 : decode cX4_solve 7 = .ok (.istore_n 2, 1) := by decide +kernel
theorem dX4_solve_8 : decode cX4_solve 8 = .ok (.iconst 0, 1) := by decide +kernel
theorem dX4_solve_9 : decode cX4_solve 9 = .ok (.istore_n 3, 1) := by decide +kernel
theorem dX4_solve_10 : decode cX4_solve 10 = .ok (.iload_n 3, 1) := by decide +kernel
theorem dX4_solve_11 : decode cX4_solve 11 = .ok (.aload_n 0, 1) := by decide +kernel
theorem dX4_solve_12 : decode cX4_solve 12 = .ok (.getfield 31, 3) := by decide +kernel
theorem dX4_solve_15 : decode cX4_solve 15 = .ok (.if_icmp .ge 53, 3) := by decide +kernel
theorem dX4_solve_18 : decode cX4_solve 18 = .ok (.aload_n 0, 1) := by decide +kernel
theorem dX4_solve_19 : decode cX4_solve 19 = .ok (.iload_n 3, 1) := by decide +kernel
theorem dX4_solve_20 : decode cX4_solve 20 = .ok (.iload_n 2, 1) := by decide +kernel
theorem dX4_solve_21 : decode cX4_solve 21 = .ok (.invokevirtual 59, 3) := by decide +kernel
theorem dX4_solve_24 : decode cX4_solve 24 = .ok (.istore 4, 2) := by decide +kernel
theorem dX4_solve_26 : decode cX4_solve 26 = .ok (.aload_n 0, 1) := by decide +kernel
theorem dX4_solve_27 : decode cX4_solve 27 = .ok (.getfield 39, 3) := by decide +kernel
theorem dX4_solve_30 : decode cX4_solve 30 = .ok (.iload_n 3, 1) := by decide +kernel
theorem dX4_solve_31 : decode cX4_solve 31 = .ok (.iconst (-1), 1) := by decide +kernel
theorem dX4_solve_32 : decode cX4_solve 32 = .ok (.iastore, 1) := by decide +kernel
theorem dX4_solve_33 : decode cX4_solve 33 = .ok (.iload 4, 2) := by decide +kernel
theorem dX4_solve_35 : decode cX4_solve 35 = .ok (.iconst (-1), 1) := by decide +kernel
theorem dX4_solve_36 : decode cX4_solve 36 = .ok (.if_icmp .eq 26, 3) := by decide +kernel
theorem dX4_solve_39 : decode cX4_solve 39 = .ok (.aload_n 0, 1) := by decide +kernel
theorem dX4_solve_40 : decode cX4_solve 40 = .ok (.getfield 39, 3) := by decide +kernel
theorem dX4_solve_43 : decode cX4_solve 43 = .ok (.iload_n 3, 1) := by decide +kernel
theorem dX4_solve_44 : decode cX4_solve 44 = .ok (.aload_n 0, 1) := by decide +kernel
theorem dX4_solve_45 : decode cX4_solve 45 = .ok (.getfield 11, 3) := by decide +kernel
theorem dX4_solve_48 : decode cX4_solve 48 = .ok (.iload 4, 2) := by decide +kernel
theorem dX4_solve_50 : decode cX4_solve 50 = .ok (.iaload, 1) := by decide +kernel
theorem dX4_solve_51 : decode cX4_solve 51 = .ok (.iastore, 1) := by decide +kernel
theorem dX4_solve_52 : decode cX4_solve 52 = .ok (.iload_n 2, 1) := by decide +kernel
theorem dX4_solve_53 : decode cX4_solve 53 = .ok (.iconst 1, 1) := by decide +kernel
theorem dX4_solve_54 : decode cX4_solve 54 = .ok (.iload 4, 2) := by decide +kernel
theorem dX4_solve_56 : decode cX4_solve 56 = .ok (.ishl, 1) := by decide +kernel
theorem dX4_solve_57 : decode cX4_solve 57 = .ok (.ior, 1) := by decide +kernel
theorem dX4_solve_58 : decode cX4_solve 58 = .ok (.istore_n 2, 1) := by decide +kernel
theorem dX4_solve_59 : decode cX4_solve 59 = .ok (.iinc 1 1, 3) := by decide +kernel
theorem dX4_solve_62 : decode cX4_solve 62 = .ok (.iinc 3 1, 3) := by decide +kernel
theorem dX4_solve_65 : decode cX4_solve 65 = .ok (.goto (-55), 3) := by decide +kernel
theorem dX4_solve_68 : decode cX4_solve 68 = .ok (.iload_n 1, 1) := by decide +kernel
theorem dX4_solve_69 : decode cX4_solve 69 = .ok (.ireturn, 1) := by decide +kernel
theorem dX4_weighAll_0 : decode cX4_weighAll 0 = .ok (.iconst 1, 1) := by decide +kernel
theorem dX4_weighAll_1 : decode cX4_weighAll 1 = .ok (.aload_n 0, 1) := by decide +kernel
theorem dX4_weighAll_2 : decode cX4_weighAll 2 = .ok (.getfield 21, 3) := by decide +kernel
theorem dX4_weighAll_5 : decode cX4_weighAll 5 = .ok (.ishl, 1) := by decide +kernel
theorem dX4_weighAll_6 : decode cX4_weighAll 6 = .ok (.istore_n 1, 1) := by decide +kernel
theorem dX4_weighAll_7 : decode cX4_weighAll 7 = .ok (.aload_n 0, 1) := by decide +kernel
theorem dX4_weighAll_8 : decode cX4_weighAll 8 = .ok (.getfield 36, 3) := by decide +kernel
theorem dX4_weighAll_11 : decode cX4_weighAll 11 = .ok (.aload_n 0, 1) := by decide +kernel
theorem dX4_weighAll_12 : decode cX4_weighAll 12 = .ok (.getfield 31, 3) := by decide +kernel
theorem dX4_weighAll_15 : decode cX4_weighAll 15 = .ok (.aaload, 1) := by decide +kernel
theorem dX4_weighAll_16 : decode cX4_weighAll 16 = .ok (.iconst 0, 1) := by decide +kernel
theorem dX4_weighAll_17 : decode cX4_weighAll 17 = .ok (.invokestatic 63, 3) := by decide +kernel
theorem dX4_weighAll_20 : decode cX4_weighAll 20 = .ok (.aload_n 0, 1) := by decide +kernel
theorem dX4_weighAll_21 : decode cX4_weighAll 21 = .ok (.getfield 31, 3) := by decide +kernel
theorem dX4_weighAll_24 : decode cX4_weighAll 24 = .ok (.iconst 1, 1) := by decide +kernel
theorem dX4_weighAll_25 : decode cX4_weighAll 25 = .ok (.isub, 1) := by decide +kernel
theorem dX4_weighAll_26 : decode cX4_weighAll 26 = .ok (.istore_n 2, 1) := by decide +kernel
theorem dX4_weighAll_27 : decode cX4_weighAll 27 = .ok (.iload_n 2, 1) := by decide +kernel
theorem dX4_weighAll_28 : decode cX4_weighAll 28 = .ok (.ifCond .lt 36, 3) := by decide +kernel
theorem dX4_weighAll_31 : decode cX4_weighAll 31 = .ok (.iconst 0, 1) := by decide +kernel
theorem dX4_weighAll_32 : decode cX4_weighAll 32 = .ok (.istore_n 3, 1) := by decide +kernel
theorem dX4_weighAll_33 : decode cX4_weighAll 33 = .ok (.iload_n 3, 1) := by decide +kernel
theorem dX4_weighAll_34 : decode cX4_weighAll 34 = .ok (.iload_n 1, 1) := by decide +kernel
theorem dX4_weighAll_35 : decode cX4_weighAll 35 = .ok (.if_icmp .ge 23, 3) := by decide +kernel
theorem dX4_weighAll_38 : decode cX4_weighAll 38 = .ok (.aload_n 0, 1) := by decide +kernel
theorem dX4_weighAll_39 : decode cX4_weighAll 39 = .ok (.getfield 36, 3) := by decide +kernel
theorem dX4_weighAll_42 : decode cX4_weighAll 42 = .ok (.iload_n 2, 1) := by decide +kernel
theorem dX4_weighAll_43 : decode cX4_weighAll 43 = .ok (.aaload, 1) := by decide +kernel
theorem dX4_weighAll_44 : decode cX4_weighAll 44 = .ok (.iload_n 3, 1) := by decide +kernel
theorem dX4_weighAll_45 : decode cX4_weighAll 45 = .ok (.aload_n 0, 1) := by decide +kernel
theorem dX4_weighAll_46 : decode cX4_weighAll 46 = .ok (.iload_n 2, 1) := by decide +kernel
theorem dX4_weighAll_47 : decode cX4_weighAll 47 = .ok (.iload_n 3, 1) := by decide +kernel
theorem dX4_weighAll_48 : decode cX4_weighAll 48 = .ok (.invokevirtual 69, 3) := by decide +kernel
theorem dX4_weighAll_51 : decode cX4_weighAll 51 = .ok (.iastore, 1) := by decide +kernel
theorem dX4_weighAll_52 : decode cX4_weighAll 52 = .ok (.iinc 3 1, 3) := by decide +kernel
theorem dX4_weighAll_55 : decode cX4_weighAll 55 = .ok (.goto (-22), 3) := by decide +kernel
theorem dX4_weighAll_58 : decode cX4_weighAll 58 = .ok (.iinc 2 (-1), 3) := by decide +kernel
theorem dX4_weighAll_61 : decode cX4_weighAll 61 = .ok (.goto (-34), 3) := by decide +kernel
theorem dX4_weighAll_64 : decode cX4_weighAll 64 = .ok (.return_, 1) := by decide +kernel
theorem dX4_weigh_0 : decode cX4_weigh 0 = .ok (.aload_n 0, 1) := by decide +kernel
theorem dX4_weigh_1 : decode cX4_weigh 1 = .ok (.getfield 36, 3) := by decide +kernel
theorem dX4_weigh_4 : decode cX4_weigh 4 = .ok (.iload_n 1, 1) := by decide +kernel
theorem dX4_weigh_5 : decode cX4_weigh 5 = .ok (.iconst 1, 1) := by decide +kernel
theorem dX4_weigh_6 : decode cX4_weigh 6 = .ok (.iadd, 1) := by decide +kernel
theorem dX4_weigh_7 : decode cX4_weigh 7 = .ok (.aaload, 1) := by decide +kernel
theorem dX4_weigh_8 : decode cX4_weigh 8 = .ok (.iload_n 2, 1) := by decide +kernel
theorem dX4_weigh_9 : decode cX4_weigh 9 = .ok (.iaload, 1) := by decide +kernel
theorem dX4_weigh_10 : decode cX4_weigh 10 = .ok (.istore_n 3, 1) := by decide +kernel
theorem dX4_weigh_11 : decode cX4_weigh 11 = .ok (.iconst 0, 1) := by decide +kernel
theorem dX4_weigh_12 : decode cX4_weigh 12 = .ok (.istore 4, 2) := by decide +kernel
theorem dX4_weigh_14 : decode cX4_weigh 14 = .ok (.iload 4, 2) := by decide +kernel
theorem dX4_weigh_16 : decode cX4_weigh 16 = .ok (.aload_n 0, 1) := by decide +kernel
theorem dX4_weigh_17 : decode cX4_weigh 17 = .ok (.getfield 21, 3) := by decide +kernel
theorem dX4_weigh_20 : decode cX4_weigh 20 = .ok (.if_icmp .ge 33, 3) := by decide +kernel
theorem dX4_weigh_23 : decode cX4_weigh 23 = .ok (.aload_n 0, 1) := by decide +kernel
theorem dX4_weigh_24 : decode cX4_weigh 24 = .ok (.iload 4, 2) := by decide +kernel
theorem dX4_weigh_26 : decode cX4_weigh 26 = .ok (.iload_n 1, 1) := by decide +kernel
theorem dX4_weigh_27 : decode cX4_weigh 27 = .ok (.iload_n 2, 1) := by decide +kernel
theorem dX4_weigh_28 : decode cX4_weigh 28 = .ok (.invokevirtual 72, 3) := by decide +kernel
theorem dX4_weigh_31 : decode cX4_weigh 31 = .ok (.ifCond .eq 16, 3) := by decide +kernel
theorem dX4_weigh_34 : decode cX4_weigh 34 = .ok (.iload_n 3, 1) := by decide +kernel
theorem dX4_weigh_35 : decode cX4_weigh 35 = .ok (.aload_n 0, 1) := by decide +kernel
theorem dX4_weigh_36 : decode cX4_weigh 36 = .ok (.iload 4, 2) := by decide +kernel
theorem dX4_weigh_38 : decode cX4_weigh 38 = .ok (.iload_n 1, 1) := by decide +kernel
theorem dX4_weigh_39 : decode cX4_weigh 39 = .ok (.iload_n 2, 1) := by decide +kernel
theorem dX4_weigh_40 : decode cX4_weigh 40 = .ok (.invokevirtual 76, 3) := by decide +kernel
theorem dX4_weigh_43 : decode cX4_weigh 43 = .ok (.invokestatic 80, 3) := by decide +kernel
theorem dX4_weigh_46 : decode cX4_weigh 46 = .ok (.istore_n 3, 1) := by decide +kernel
theorem dX4_weigh_47 : decode cX4_weigh 47 = .ok (.iinc 4 1, 3) := by decide +kernel
theorem dX4_weigh_50 : decode cX4_weigh 50 = .ok (.goto (-36), 3) := by decide +kernel
theorem dX4_weigh_53 : decode cX4_weigh 53 = .ok (.iload_n 3, 1) := by decide +kernel
theorem dX4_weigh_54 : decode cX4_weigh 54 = .ok (.ireturn, 1) := by decide +kernel
theorem dX4_canClose_0 : decode cX4_canClose 0 = .ok (.iload_n 3, 1) := by decide +kernel
theorem dX4_canClose_1 : decode cX4_canClose 1 = .ok (.iconst 1, 1) := by decide +kernel
theorem dX4_canClose_2 : decode cX4_canClose 2 = .ok (.iload_n 1, 1) := by decide +kernel
theorem dX4_canClose_3 : decode cX4_canClose 3 = .ok (.ishl, 1) := by decide +kernel
theorem dX4_canClose_4 : decode cX4_canClose 4 = .ok (.iand, 1) := by decide +kernel
theorem dX4_canClose_5 : decode cX4_canClose 5 = .ok (.ifCond .ne 37, 3) := by decide +kernel
theorem dX4_canClose_8 : decode cX4_canClose 8 = .ok (.aload_n 0, 1) := by decide +kernel
theorem dX4_canClose_9 : decode cX4_canClose 9 = .ok (.getfield 15, 3) := by decide +kernel
theorem dX4_canClose_12 : decode cX4_canClose 12 = .ok (.iload_n 1, 1) := by decide +kernel
theorem dX4_canClose_13 : decode cX4_canClose 13 = .ok (.iaload, 1) := by decide +kernel
theorem dX4_canClose_14 : decode cX4_canClose 14 = .ok (.aload_n 0, 1) := by decide +kernel
theorem dX4_canClose_15 : decode cX4_canClose 15 = .ok (.getfield 25, 3) := by decide +kernel
theorem dX4_canClose_18 : decode cX4_canClose 18 = .ok (.iload_n 2, 1) := by decide +kernel
theorem dX4_canClose_19 : decode cX4_canClose 19 = .ok (.iaload, 1) := by decide +kernel
theorem dX4_canClose_20 : decode cX4_canClose 20 = .ok (.if_icmp .eq 22, 3) := by decide +kernel
theorem dX4_canClose_23 : decode cX4_canClose 23 = .ok (.aload_n 0, 1) := by decide +kernel
theorem dX4_canClose_24 : decode cX4_canClose 24 = .ok (.getfield 28, 3) := by decide +kernel
theorem dX4_canClose_27 : decode cX4_canClose 27 = .ok (.iload_n 2, 1) := by decide +kernel
theorem dX4_canClose_28 : decode cX4_canClose 28 = .ok (.iaload, 1) := by decide +kernel
theorem dX4_canClose_29 : decode cX4_canClose 29 = .ok (.aload_n 0, 1) := by decide +kernel
theorem dX4_canClose_30 : decode cX4_canClose 30 = .ok (.getfield 18, 3) := by decide +kernel
theorem dX4_canClose_33 : decode cX4_canClose 33 = .ok (.iload_n 1, 1) := by decide +kernel
theorem dX4_canClose_34 : decode cX4_canClose 34 = .ok (.iaload, 1) := by decide +kernel
theorem dX4_canClose_35 : decode cX4_canClose 35 = .ok (.if_icmp .gt 7, 3) := by decide +kernel
theorem dX4_canClose_38 : decode cX4_canClose 38 = .ok (.iconst 1, 1) := by decide +kernel
theorem dX4_canClose_39 : decode cX4_canClose 39 = .ok (.goto 4, 3) := by decide +kernel
theorem dX4_canClose_42 : decode cX4_canClose 42 = .ok (.iconst 0, 1) := by decide +kernel
theorem dX4_canClose_43 : decode cX4_canClose 43 = .ok (.ireturn, 1) := by decide +kernel
theorem dX4_weightWith_0 : decode cX4_weightWith 0 = .ok (.sipush 10000, 3) := by decide +kernel
theorem dX4_weightWith_3 : decode cX4_weightWith 3 = .ok (.aload_n 0, 1) := by decide +kernel
theorem dX4_weightWith_4 : decode cX4_weightWith 4 = .ok (.getfield 18, 3) := by decide +kernel
theorem dX4_weightWith_7 : decode cX4_weightWith 7 = .ok (.iload_n 1, 1) := by decide +kernel
theorem dX4_weightWith_8 : decode cX4_weightWith 8 = .ok (.iaload, 1) := by decide +kernel
theorem dX4_weightWith_9 : decode cX4_weightWith 9 = .ok (.isub, 1) := by decide +kernel
theorem dX4_weightWith_10 : decode cX4_weightWith 10 = .ok (.aload_n 0, 1) := by decide +kernel
theorem dX4_weightWith_11 : decode cX4_weightWith 11 = .ok (.getfield 36, 3) := by decide +kernel
theorem dX4_weightWith_14 : decode cX4_weightWith 14 = .ok (.iload_n 2, 1) := by decide +kernel
theorem dX4_weightWith_15 : decode cX4_weightWith 15 = .ok (.iconst 1, 1) := by decide +kernel
theorem dX4_weightWith_16 : decode cX4_weightWith 16 = .ok (.iadd, 1) := by decide +kernel
theorem dX4_weightWith_17 : decode cX4_weightWith 17 = .ok (.aaload, 1) := by decide +kernel
theorem dX4_weightWith_18 : decode cX4_weightWith 18 = .ok (.iload_n 3, 1) := by decide +kernel
theorem dX4_weightWith_19 : decode cX4_weightWith 19 = .ok (.iconst 1, 1) := by decide +kernel
theorem dX4_weightWith_20 : decode cX4_weightWith 20 = .ok (.iload_n 1, 1) := by decide +kernel
theorem dX4_weightWith_21 : decode cX4_weightWith 21 = .ok (.ishl, 1) := by decide +kernel
theorem dX4_weightWith_22 : decode cX4_weightWith 22 = .ok (.ior, 1) := by decide +kernel
theorem dX4_weightWith_23 : decode cX4_weightWith 23 = .ok (.iaload, 1) := by decide +kernel
theorem dX4_weightWith_24 : decode cX4_weightWith 24 = .ok (.iadd, 1) := by decide +kernel
theorem dX4_weightWith_25 : decode cX4_weightWith 25 = .ok (.ireturn, 1) := by decide +kernel
theorem dX4_choiceFor_0 : decode cX4_choiceFor 0 = .ok (.iconst 0, 1) := by decide +kernel
theorem dX4_choiceFor_1 : decode cX4_choiceFor 1 = .ok (.istore_n 3, 1) := by decide +kernel
theorem dX4_choiceFor_2 : decode cX4_choiceFor 2 = .ok (.iload_n 3, 1) := by decide +kernel
theorem dX4_choiceFor_3 : decode cX4_choiceFor 3 = .ok (.aload_n 0, 1) := by decide +kernel
theorem dX4_choiceFor_4 : decode cX4_choiceFor 4 = .ok (.getfield 21, 3) := by decide +kernel
theorem dX4_choiceFor_7 : decode cX4_choiceFor 7 = .ok (.if_icmp .ge 39, 3) := by decide +kernel
theorem dX4_choiceFor_10 : decode cX4_choiceFor 10 = .ok (.aload_n 0, 1) := by decide +kernel
theorem dX4_choiceFor_11 : decode cX4_choiceFor 11 = .ok (.iload_n 3, 1) := by decide +kernel
theorem dX4_choiceFor_12 : decode cX4_choiceFor 12 = .ok (.iload_n 1, 1) := by decide +kernel
theorem dX4_choiceFor_13 : decode cX4_choiceFor 13 = .ok (.iload_n 2, 1) := by decide +kernel
theorem dX4_choiceFor_14 : decode cX4_choiceFor 14 = .ok (.invokevirtual 72, 3) := by decide +kernel
theorem dX4_choiceFor_17 : decode cX4_choiceFor 17 = .ok (.ifCond .eq 23, 3) := by decide +kernel
theorem dX4_choiceFor_20 : decode cX4_choiceFor 20 = .ok (.aload_n 0, 1) := by decide +kernel
theorem dX4_choiceFor_21 : decode cX4_choiceFor 21 = .ok (.iload_n 3, 1) := by decide +kernel
theorem dX4_choiceFor_22 : decode cX4_choiceFor 22 = .ok (.iload_n 1, 1) := by decide +kernel
theorem dX4_choiceFor_23 : decode cX4_choiceFor 23 = .ok (.iload_n 2, 1) := by decide +kernel
theorem dX4_choiceFor_24 : decode cX4_choiceFor 24 = .ok (.invokevirtual 76, 3) := by decide +kernel
theorem dX4_choiceFor_27 : decode cX4_choiceFor 27 = .ok (.aload_n 0, 1) := by decide +kernel
theorem dX4_choiceFor_28 : decode cX4_choiceFor 28 = .ok (.getfield 36, 3) := by decide +kernel
theorem dX4_choiceFor_31 : decode cX4_choiceFor 31 = .ok (.iload_n 1, 1) := by decide +kernel
theorem dX4_choiceFor_32 : decode cX4_choiceFor 32 = .ok (.aaload, 1) := by decide +kernel
theorem dX4_choiceFor_33 : decode cX4_choiceFor 33 = .ok (.iload_n 2, 1) := by decide +kernel
theorem dX4_choiceFor_34 : decode cX4_choiceFor 34 = .ok (.iaload, 1) := by decide +kernel
theorem dX4_choiceFor_35 : decode cX4_choiceFor 35 = .ok (.if_icmp .ne 5, 3) := by decide +kernel
theorem dX4_choiceFor_38 : decode cX4_choiceFor 38 = .ok (.iload_n 3, 1) := by decide +kernel
theorem dX4_choiceFor_39 : decode cX4_choiceFor 39 = .ok (.ireturn, 1) := by decide +kernel
theorem dX4_choiceFor_40 : decode cX4_choiceFor 40 = .ok (.iinc 3 1, 3) := by decide +kernel
theorem dX4_choiceFor_43 : decode cX4_choiceFor 43 = .ok (.goto (-41), 3) := by decide +kernel
theorem dX4_choiceFor_46 : decode cX4_choiceFor 46 = .ok (.iconst (-1), 1) := by decide +kernel
theorem dX4_choiceFor_47 : decode cX4_choiceFor 47 = .ok (.ireturn, 1) := by decide +kernel
theorem dX5_init_0 : decode cX5_init 0 = .ok (.aload_n 0, 1) := by decide +kernel
theorem dX5_init_1 : decode cX5_init 1 = .ok (.invokespecial 3, 3) := by decide +kernel
theorem dX5_init_4 : decode cX5_init 4 = .ok (.aload_n 0, 1) := by decide +kernel
theorem dX5_init_5 : decode cX5_init 5 = .ok (.bipush 40, 2) := by decide +kernel
theorem dX5_init_7 : decode cX5_init 7 = .ok (.newarray .int, 2) := by decide +kernel
theorem dX5_init_9 : decode cX5_init 9 = .ok (.putfield 9, 3) := by decide +kernel
theorem dX5_init_12 : decode cX5_init 12 = .ok (.aload_n 0, 1) := by decide +kernel
theorem dX5_init_13 : decode cX5_init 13 = .ok (.iconst 0, 1) := by decide +kernel
theorem dX5_init_14 : decode cX5_init 14 = .ok (.putfield 15, 3) := by decide +kernel
theorem dX5_init_17 : decode cX5_init 17 = .ok (.return_, 1) := by decide +kernel
theorem dX5_append_0 : decode cX5_append 0 = .ok (.bipush 24, 2) := by decide +kernel
theorem dX5_append_2 : decode cX5_append 2 = .ok (.istore_n 2, 1) := by decide +kernel
theorem dX5_append_3 : decode cX5_append 3 = .ok (.iload_n 2, 1) := by decide +kernel
theorem dX5_append_4 : decode cX5_append 4 = .ok (.ifCond .lt 47, 3) := by decide +kernel
theorem dX5_append_7 : decode cX5_append 7 = .ok (.aload_n 0, 1) := by decide +kernel
theorem dX5_append_8 : decode cX5_append 8 = .ok (.getfield 15, 3) := by decide +kernel
theorem dX5_append_11 : decode cX5_append 11 = .ok (.aload_n 0, 1) := by decide +kernel
theorem dX5_append_12 : decode cX5_append 12 = .ok (.getfield 9, 3) := by decide +kernel
theorem dX5_append_15 : decode cX5_append 15 = .ok (.arraylength, 1) := by decide +kernel
theorem dX5_append_16 : decode cX5_append 16 = .ok (.if_icmp .ge 35, 3) := by decide +kernel
theorem dX5_append_19 : decode cX5_append 19 = .ok (.aload_n 0, 1) := by decide +kernel
theorem dX5_append_20 : decode cX5_append 20 = .ok (.getfield 9, 3) := by decide +kernel
theorem dX5_append_23 : decode cX5_append 23 = .ok (.aload_n 0, 1) := by decide +kernel
theorem dX5_append_24 : decode cX5_append 24 = .ok (.getfield 15, 3) := by decide +kernel
theorem dX5_append_27 : decode cX5_append 27 = .ok (.iload_n 1, 1) := by decide +kernel
theorem dX5_append_28 : decode cX5_append 28 = .ok (.iload_n 2, 1) := by decide +kernel
theorem dX5_append_29 : decode cX5_append 29 = .ok (.iushr, 1) := by decide +kernel
theorem dX5_append_30 : decode cX5_append 30 = .ok (.sipush 255, 3) := by decide +kernel
theorem dX5_append_33 : decode cX5_append 33 = .ok (.iand, 1) := by decide +kernel
theorem dX5_append_34 : decode cX5_append 34 = .ok (.iastore, 1) := by decide +kernel
theorem dX5_append_35 : decode cX5_append 35 = .ok (.aload_n 0, 1) := by decide +kernel
theorem dX5_append_36 : decode cX5_append 36 = .ok (.dup, 1) := by decide +kernel
theorem dX5_append_37 : decode cX5_append 37 = .ok (.getfield 15, 3) := by decide +kernel
theorem dX5_append_40 : decode cX5_append 40 = .ok (.iconst 1, 1) := by decide +kernel
theorem dX5_append_41 : decode cX5_append 41 = .ok (.iadd, 1) := by decide +kernel
theorem dX5_append_42 : decode cX5_append 42 = .ok (.putfield 15, 3) := by decide +kernel
theorem dX5_append_45 : decode cX5_append 45 = .ok (.iinc 2 (-8), 3) := by decide +kernel
theorem dX5_append_48 : decode cX5_append 48 = .ok (.goto (-45), 3) := by decide +kernel
theorem dX5_append_51 : decode cX5_append 51 = .ok (.return_, 1) := by decide +kernel
theorem dX5_byteAt_0 : decode cX5_byteAt 0 = .ok (.iload_n 1, 1) := by decide +kernel
theorem dX5_byteAt_1 : decode cX5_byteAt 1 = .ok (.ifCond .lt 25, 3) := by decide +kernel
theorem dX5_byteAt_4 : decode cX5_byteAt 4 = .ok (.iload_n 1, 1) := by decide +kernel
theorem dX5_byteAt_5 : decode cX5_byteAt 5 = .ok (.iload_n 2, 1) := by decide +kernel
theorem dX5_byteAt_6 : decode cX5_byteAt 6 = .ok (.if_icmp .ge 20, 3) := by decide +kernel
theorem dX5_byteAt_9 : decode cX5_byteAt 9 = .ok (.iload_n 1, 1) := by decide +kernel
theorem dX5_byteAt_10 : decode cX5_byteAt 10 = .ok (.aload_n 0, 1) := by decide +kernel
theorem dX5_byteAt_11 : decode cX5_byteAt 11 = .ok (.getfield 15, 3) := by decide +kernel
theorem dX5_byteAt_14 : decode cX5_byteAt 14 = .ok (.if_icmp .ge 12, 3) := by decide +kernel
theorem dX5_byteAt_17 : decode cX5_byteAt 17 = .ok (.aload_n 0, 1) := by decide +kernel
theorem dX5_byteAt_18 : decode cX5_byteAt 18 = .ok (.getfield 9, 3) := by decide +kernel
theorem dX5_byteAt_21 : decode cX5_byteAt 21 = .ok (.iload_n 1, 1) := by decide +kernel
theorem dX5_byteAt_22 : decode cX5_byteAt 22 = .ok (.iaload, 1) := by decide +kernel
theorem dX5_byteAt_23 : decode cX5_byteAt 23 = .ok (.goto 4, 3) := by decide +kernel
theorem dX5_byteAt_26 : decode cX5_byteAt 26 = .ok (.iconst (-1), 1) := by decide +kernel
theorem dX5_byteAt_27 : decode cX5_byteAt 27 = .ok (.ireturn, 1) := by decide +kernel
theorem dX6_init_0 : decode cX6_init 0 = .ok (.aload_n 0, 1) := by decide +kernel
theorem dX6_init_1 : decode cX6_init 1 = .ok (.invokespecial 3, 3) := by decide +kernel
theorem dX6_init_4 : decode cX6_init 4 = .ok (.aload_n 0, 1) := by decide +kernel
theorem dX6_init_5 : decode cX6_init 5 = .ok (.iconst (-1), 1) := by decide +kernel
theorem dX6_init_6 : decode cX6_init 6 = .ok (.putfield 9, 3) := by decide +kernel
theorem dX6_init_9 : decode cX6_init 9 = .ok (.aload_n 0, 1) := by decide +kernel
theorem dX6_init_10 : decode cX6_init 10 = .ok (.iconst 0, 1) := by decide +kernel
theorem dX6_init_11 : decode cX6_init 11 = .ok (.putfield 15, 3) := by decide +kernel
theorem dX6_init_14 : decode cX6_init 14 = .ok (.aload_n 0, 1) := by decide +kernel
theorem dX6_init_15 : decode cX6_init 15 = .ok (.iconst (-1), 1) := by decide +kernel
theorem dX6_init_16 : decode cX6_init 16 = .ok (.putfield 18, 3) := by decide +kernel
theorem dX6_init_19 : decode cX6_init 19 = .ok (.aload_n 0, 1) := by decide +kernel
theorem dX6_init_20 : decode cX6_init 20 = .ok (.iconst 0, 1) := by decide +kernel
theorem dX6_init_21 : decode cX6_init 21 = .ok (.putfield 21, 3) := by decide +kernel
theorem dX6_init_24 : decode cX6_init 24 = .ok (.aload_n 0, 1) := by decide +kernel
theorem dX6_init_25 : decode cX6_init 25 = .ok (.iconst (-1), 1) := by decide +kernel
theorem dX6_init_26 : decode cX6_init 26 = .ok (.putfield 25, 3) := by decide +kernel
theorem dX6_init_29 : decode cX6_init 29 = .ok (.aload_n 0, 1) := by decide +kernel
theorem dX6_init_30 : decode cX6_init 30 = .ok (.bipush 80, 2) := by decide +kernel
theorem dX6_init_32 : decode cX6_init 32 = .ok (.newarray .int, 2) := by decide +kernel
theorem dX6_init_34 : decode cX6_init 34 = .ok (.putfield 28, 3) := by decide +kernel
theorem dX6_init_37 : decode cX6_init 37 = .ok (.aload_n 0, 1) := by decide +kernel
theorem dX6_init_38 : decode cX6_init 38 = .ok (.bipush 80, 2) := by decide +kernel
theorem dX6_init_40 : decode cX6_init 40 = .ok (.newarray .int, 2) := by decide +kernel
theorem dX6_init_42 : decode cX6_init 42 = .ok (.putfield 32, 3) := by decide +kernel
theorem dX6_init_45 : decode cX6_init 45 = .ok (.aload_n 0, 1) := by decide +kernel
theorem dX6_init_46 : decode cX6_init 46 = .ok (.iconst 0, 1) := by decide +kernel
theorem dX6_init_47 : decode cX6_init 47 = .ok (.putfield 35, 3) := by decide +kernel
theorem dX6_init_50 : decode cX6_init 50 = .ok (.aload_n 0, 1) := by decide +kernel
theorem dX6_init_51 : decode cX6_init 51 = .ok (.iload_n 1, 1) := by decide +kernel
theorem dX6_init_52 : decode cX6_init 52 = .ok (.putfield 38, 3) := by decide +kernel
theorem dX6_init_55 : decode cX6_init 55 = .ok (.aload_n 0, 1) := by decide +kernel
theorem dX6_init_56 : decode cX6_init 56 = .ok (.iload_n 2, 1) := by decide +kernel
theorem dX6_init_57 : decode cX6_init 57 = .ok (.putfield 41, 3) := by decide +kernel
theorem dX6_init_60 : decode cX6_init 60 = .ok (.return_, 1) := by decide +kernel
theorem dX6_comeTo_0 : decode cX6_comeTo 0 = .ok (.aload_n 0, 1) := by decide +kernel
theorem dX6_comeTo_1 : decode cX6_comeTo 1 = .ok (.iload_n 1, 1) := by decide +kernel
theorem dX6_comeTo_2 : decode cX6_comeTo 2 = .ok (.putfield 9, 3) := by decide +kernel
theorem dX6_comeTo_5 : decode cX6_comeTo 5 = .ok (.aload_n 0, 1) := by decide +kernel
theorem dX6_comeTo_6 : decode cX6_comeTo 6 = .ok (.iload_n 2, 1) := by decide +kernel
theorem dX6_comeTo_7 : decode cX6_comeTo 7 = .ok (.putfield 15, 3) := by decide +kernel
theorem dX6_comeTo_10 : decode cX6_comeTo 10 = .ok (.aload_n 0, 1) := by decide +kernel
theorem dX6_comeTo_11 : decode cX6_comeTo 11 = .ok (.getfield 35, 3) := by decide +kernel
theorem dX6_comeTo_14 : decode cX6_comeTo 14 = .ok (.bipush 80, 2) := by decide +kernel
theorem dX6_comeTo_16 : decode cX6_comeTo 16 = .ok (.if_icmp .ge 33, 3) := by decide +kernel
theorem dX6_comeTo_19 : decode cX6_comeTo 19 = .ok (.aload_n 0, 1) := by decide +kernel
theorem dX6_comeTo_20 : decode cX6_comeTo 20 = .ok (.getfield 28, 3) := by decide +kernel
theorem dX6_comeTo_23 : decode cX6_comeTo 23 = .ok (.aload_n 0, 1) := by decide +kernel
theorem dX6_comeTo_24 : decode cX6_comeTo 24 = .ok (.getfield 35, 3) := by decide +kernel
theorem dX6_comeTo_27 : decode cX6_comeTo 27 = .ok (.iload_n 1, 1) := by decide +kernel
theorem dX6_comeTo_28 : decode cX6_comeTo 28 = .ok (.iastore, 1) := by decide +kernel
theorem dX6_comeTo_29 : decode cX6_comeTo 29 = .ok (.aload_n 0, 1) := by decide +kernel
theorem dX6_comeTo_30 : decode cX6_comeTo 30 = .ok (.getfield 32, 3) := by decide +kernel
theorem dX6_comeTo_33 : decode cX6_comeTo 33 = .ok (.aload_n 0, 1) := by decide +kernel
theorem dX6_comeTo_34 : decode cX6_comeTo 34 = .ok (.getfield 35, 3) := by decide +kernel
theorem dX6_comeTo_37 : decode cX6_comeTo 37 = .ok (.iload_n 2, 1) := by decide +kernel
theorem dX6_comeTo_38 : decode cX6_comeTo 38 = .ok (.iastore, 1) := by decide +kernel
theorem dX6_comeTo_39 : decode cX6_comeTo 39 = .ok (.aload_n 0, 1) := by decide +kernel
theorem dX6_comeTo_40 : decode cX6_comeTo 40 = .ok (.dup, 1) := by decide +kernel
theorem dX6_comeTo_41 : decode cX6_comeTo 41 = .ok (.getfield 35, 3) := by decide +kernel
theorem dX6_comeTo_44 : decode cX6_comeTo 44 = .ok (.iconst 1, 1) := by decide +kernel
theorem dX6_comeTo_45 : decode cX6_comeTo 45 = .ok (.iadd, 1) := by decide +kernel
theorem dX6_comeTo_46 : decode cX6_comeTo 46 = .ok (.putfield 35, 3) := by decide +kernel
theorem dX6_comeTo_49 : decode cX6_comeTo 49 = .ok (.return_, 1) := by decide +kernel
theorem dX6_isHeldBy_0 : decode cX6_isHeldBy 0 = .ok (.aload_n 0, 1) := by decide +kernel
theorem dX6_isHeldBy_1 : decode cX6_isHeldBy 1 = .ok (.getfield 21, 3) := by decide +kernel
theorem dX6_isHeldBy_4 : decode cX6_isHeldBy 4 = .ok (.ifCond .ne 15, 3) := by decide +kernel
theorem dX6_isHeldBy_7 : decode cX6_isHeldBy 7 = .ok (.aload_n 0, 1) := by decide +kernel
theorem dX6_isHeldBy_8 : decode cX6_isHeldBy 8 = .ok (.getfield 9, 3) := by decide +kernel
theorem dX6_isHeldBy_11 : decode cX6_isHeldBy 11 = .ok (.iload_n 1, 1) := by decide +kernel
theorem dX6_isHeldBy_12 : decode cX6_isHeldBy 12 = .ok (.if_icmp .ne 7, 3) := by decide +kernel
theorem dX6_isHeldBy_15 : decode cX6_isHeldBy 15 = .ok (.iconst 1, 1) := by decide +kernel
theorem dX6_isHeldBy_16 : decode cX6_isHeldBy 16 = .ok (.goto 4, 3) := by decide +kernel
theorem dX6_isHeldBy_19 : decode cX6_isHeldBy 19 = .ok (.iconst 0, 1) := by decide +kernel
theorem dX6_isHeldBy_20 : decode cX6_isHeldBy 20 = .ok (.ireturn, 1) := by decide +kernel
theorem dX6_canBeGivenIn_0 : decode cX6_canBeGivenIn 0 = .ok (.aload_n 0, 1) := by decide +kernel
theorem dX6_canBeGivenIn_1 : decode cX6_canBeGivenIn 1 = .ok (.getfield 21, 3) := by decide +kernel
theorem dX6_canBeGivenIn_4 : decode cX6_canBeGivenIn 4 = .ok (.ifCond .ne 24, 3) := by decide +kernel
theorem dX6_canBeGivenIn_7 : decode cX6_canBeGivenIn 7 = .ok (.aload_n 0, 1) := by decide +kernel
theorem dX6_canBeGivenIn_8 : decode cX6_canBeGivenIn 8 = .ok (.getfield 18, 3) := by decide +kernel
theorem dX6_canBeGivenIn_11 : decode cX6_canBeGivenIn 11 = .ok (.iload_n 1, 1) := by decide +kernel
theorem dX6_canBeGivenIn_12 : decode cX6_canBeGivenIn 12 = .ok (.if_icmp .eq 16, 3) := by decide +kernel
theorem dX6_canBeGivenIn_15 : decode cX6_canBeGivenIn 15 = .ok (.aload_n 0, 1) := by decide +kernel
theorem dX6_canBeGivenIn_16 : decode cX6_canBeGivenIn 16 = .ok (.getfield 35, 3) := by decide +kernel
theorem dX6_canBeGivenIn_19 : decode cX6_canBeGivenIn 19 = .ok (.bipush 64, 2) := by decide +kernel
theorem dX6_canBeGivenIn_21 : decode cX6_canBeGivenIn 21 = .ok (.if_icmp .ge 7, 3) := by decide +kernel
theorem dX6_canBeGivenIn_24 : decode cX6_canBeGivenIn 24 = .ok (.iconst 1, 1) := by decide +kernel
theorem dX6_canBeGivenIn_25 : decode cX6_canBeGivenIn 25 = .ok (.goto 4, 3) := by decide +kernel
theorem dX6_canBeGivenIn_28 : decode cX6_canBeGivenIn 28 = .ok (.iconst 0, 1) := by decide +kernel
theorem dX6_canBeGivenIn_29 : decode cX6_canBeGivenIn 29 = .ok (.ireturn, 1) := by decide +kernel
theorem dX6_holdersKept_0 : decode cX6_holdersKept 0 = .ok (.aload_n 0, 1) := by decide +kernel
theorem dX6_holdersKept_1 : decode cX6_holdersKept 1 = .ok (.getfield 35, 3) := by decide +kernel
theorem dX6_holdersKept_4 : decode cX6_holdersKept 4 = .ok (.bipush 64, 2) := by decide +kernel
theorem dX6_holdersKept_6 : decode cX6_holdersKept 6 = .ok (.invokestatic 44, 3) := by decide +kernel
theorem dX6_holdersKept_9 : decode cX6_holdersKept 9 = .ok (.ireturn, 1) := by decide +kernel
theorem dX7_init_0 : decode cX7_init 0 = .ok (.aload_n 0, 1) := by decide +kernel
theorem dX7_init_1 : decode cX7_init 1 = .ok (.invokespecial 1, 3) := by decide +kernel
theorem dX7_init_4 : decode cX7_init 4 = .ok (.aload_n 0, 1) := by decide +kernel
theorem dX7_init_5 : decode cX7_init 5 = .ok (.new 7, 3) := by decide +kernel
theorem dX7_init_8 : decode cX7_init 8 = .ok (.dup, 1) := by decide +kernel
theorem dX7_init_9 : decode cX7_init 9 = .ok (.invokespecial 9, 3) := by decide +kernel
theorem dX7_init_12 : decode cX7_init 12 = .ok (.putfield 10, 3) := by decide +kernel
theorem dX7_init_15 : decode cX7_init 15 = .ok (.aload_n 0, 1) := by decide +kernel
theorem dX7_init_16 : decode cX7_init 16 = .ok (.new 16, 3) := by decide +kernel
theorem dX7_init_19 : decode cX7_init 19 = .ok (.dup, 1) := by decide +kernel
theorem dX7_init_20 : decode cX7_init 20 = .ok (.invokespecial 18, 3) := by decide +kernel
theorem dX7_init_23 : decode cX7_init 23 = .ok (.putfield 19, 3) := by decide +kernel
theorem dX7_init_26 : decode cX7_init 26 = .ok (.aload_n 0, 1) := by decide +kernel
theorem dX7_init_27 : decode cX7_init 27 = .ok (.bipush 16, 2) := by decide +kernel
theorem dX7_init_29 : decode cX7_init 29 = .ok (.anewarray 23, 3) := by decide +kernel
theorem dX7_init_32 : decode cX7_init 32 = .ok (.putfield 25, 3) := by decide +kernel
theorem dX7_init_35 : decode cX7_init 35 = .ok (.aload_n 0, 1) := by decide +kernel
theorem dX7_init_36 : decode cX7_init 36 = .ok (.bipush 24, 2) := by decide +kernel
theorem dX7_init_38 : decode cX7_init 38 = .ok (.anewarray 29, 3) := by decide +kernel
theorem dX7_init_41 : decode cX7_init 41 = .ok (.putfield 31, 3) := by decide +kernel
theorem dX7_init_44 : decode cX7_init 44 = .ok (.aload_n 0, 1) := by decide +kernel
theorem dX7_init_45 : decode cX7_init 45 = .ok (.new 35, 3) := by decide +kernel
theorem dX7_init_48 : decode cX7_init 48 = .ok (.dup, 1) := by decide +kernel
theorem dX7_init_49 : decode cX7_init 49 = .ok (.invokespecial 37, 3) := by decide +kernel
theorem dX7_init_52 : decode cX7_init 52 = .ok (.putfield 38, 3) := by decide +kernel
theorem dX7_init_55 : decode cX7_init 55 = .ok (.aload_n 0, 1) := by decide +kernel
theorem dX7_init_56 : decode cX7_init 56 = .ok (.new 42, 3) := by decide +kernel
theorem dX7_init_59 : decode cX7_init 59 = .ok (.dup, 1) := by decide +kernel
theorem dX7_init_60 : decode cX7_init 60 = .ok (.invokespecial 44, 3) := by decide +kernel
theorem dX7_init_63 : decode cX7_init 63 = .ok (.putfield 45, 3) := by decide +kernel
theorem dX7_init_66 : decode cX7_init 66 = .ok (.aload_n 0, 1) := by decide +kernel
theorem dX7_init_67 : decode cX7_init 67 = .ok (.bipush 16, 2) := by decide +kernel
theorem dX7_init_69 : decode cX7_init 69 = .ok (.newarray .int, 2) := by decide +kernel
theorem dX7_init_71 : decode cX7_init 71 = .ok (.putfield 49, 3) := by decide +kernel
theorem dX7_init_74 : decode cX7_init 74 = .ok (.aload_n 0, 1) := by decide +kernel
theorem dX7_init_75 : decode cX7_init 75 = .ok (.bipush 6, 2) := by decide +kernel
theorem dX7_init_77 : decode cX7_init 77 = .ok (.putfield 53, 3) := by decide +kernel
theorem dX7_init_80 : decode cX7_init 80 = .ok (.aload_n 0, 1) := by decide +kernel
theorem dX7_init_81 : decode cX7_init 81 = .ok (.iconst 0, 1) := by decide +kernel
theorem dX7_init_82 : decode cX7_init 82 = .ok (.putfield 57, 3) := by decide +kernel
theorem dX7_init_85 : decode cX7_init 85 = .ok (.aload_n 0, 1) := by decide +kernel
theorem dX7_init_86 : decode cX7_init 86 = .ok (.iconst 0, 1) := by decide +kernel
theorem dX7_init_87 : decode cX7_init 87 = .ok (.putfield 60, 3) := by decide +kernel
theorem dX7_init_90 : decode cX7_init 90 = .ok (.aload_n 0, 1) := by decide +kernel
theorem dX7_init_91 : decode cX7_init 91 = .ok (.iconst 0, 1) := by decide +kernel
theorem dX7_init_92 : decode cX7_init 92 = .ok (.putfield 63, 3) := by decide +kernel
theorem dX7_init_95 : decode cX7_init 95 = .ok (.return_, 1) := by decide +kernel
theorem dX7_feed_0 : decode cX7_feed 0 = .ok (.aload_n 0, 1) := by decide +kernel
theorem dX7_feed_1 : decode cX7_feed 1 = .ok (.getfield 10, 3) := by decide +kernel
theorem dX7_feed_4 : decode cX7_feed 4 = .ok (.getfield 66, 3) := by decide +kernel
theorem dX7_feed_7 : decode cX7_feed 7 = .ok (.bipush 20, 2) := by decide +kernel
theorem dX7_feed_9 : decode cX7_feed 9 = .ok (.iadd, 1) := by decide +kernel
theorem dX7_feed_10 : decode cX7_feed 10 = .ok (.bipush 40, 2) := by decide +kernel
theorem dX7_feed_12 : decode cX7_feed 12 = .ok (.if_icmp .le 5, 3) := by decide +kernel
theorem dX7_feed_15 : decode cX7_feed 15 = .ok (.iconst (-1), 1) := by decide +kernel
theorem dX7_feed_16 : decode cX7_feed 16 = .ok (.ireturn, 1) := by decide +kernel
theorem dX7_feed_17 : decode cX7_feed 17 = .ok (.aload_n 0, 1) := by decide +kernel
theorem dX7_feed_18 : decode cX7_feed 18 = .ok (.getfield 10, 3) := by decide +kernel
theorem dX7_feed_21 : decode cX7_feed 21 = .ok (.iload_n 1, 1) := by decide +kernel
theorem dX7_feed_22 : decode cX7_feed 22 = .ok (.invokevirtual 69, 3) := by decide +kernel
theorem dX7_feed_25 : decode cX7_feed 25 = .ok (.aload_n 0, 1) := by decide +kernel
theorem dX7_feed_26 : decode cX7_feed 26 = .ok (.getfield 10, 3) := by decide +kernel
theorem dX7_feed_29 : decode cX7_feed 29 = .ok (.iload_n 2, 1) := by decide +kernel
theorem dX7_feed_30 : decode cX7_feed 30 = .ok (.invokevirtual 69, 3) := by decide +kernel
theorem dX7_feed_33 : decode cX7_feed 33 = .ok (.aload_n 0, 1) := by decide +kernel
theorem dX7_feed_34 : decode cX7_feed 34 = .ok (.getfield 10, 3) := by decide +kernel
theorem dX7_feed_37 : decode cX7_feed 37 = .ok (.iload_n 3, 1) := by decide +kernel
theorem dX7_feed_38 : decode cX7_feed 38 = .ok (.invokevirtual 69, 3) := by decide +kernel
theorem dX7_feed_41 : decode cX7_feed 41 = .ok (.aload_n 0, 1) := by decide +kernel
theorem dX7_feed_42 : decode cX7_feed 42 = .ok (.getfield 10, 3) := by decide +kernel
theorem dX7_feed_45 : decode cX7_feed 45 = .ok (.iload 4, 2) := by decide +kernel
theorem dX7_feed_47 : decode cX7_feed 47 = .ok (.invokevirtual 69, 3) := by decide +kernel
theorem dX7_feed_50 : decode cX7_feed 50 = .ok (.aload_n 0, 1) := by decide +kernel
theorem dX7_feed_51 : decode cX7_feed 51 = .ok (.getfield 10, 3) := by decide +kernel
theorem dX7_feed_54 : decode cX7_feed 54 = .ok (.iload 5, 2) := by decide +kernel
theorem dX7_feed_56 : decode cX7_feed 56 = .ok (.invokevirtual 69, 3) := by decide +kernel
theorem dX7_feed_59 : decode cX7_feed 59 = .ok (.aload_n 0, 1) := by decide +kernel
theorem dX7_feed_60 : decode cX7_feed 60 = .ok (.getfield 10, 3) := by decide +kernel
theorem dX7_feed_63 : decode cX7_feed 63 = .ok (.getfield 66, 3) := by decide +kernel
theorem dX7_feed_66 : decode cX7_feed 66 = .ok (.ireturn, 1) := by decide +kernel
theorem dX7_custom_0 : decode cX7_custom 0 = .ok (.iload_n 1, 1) := by decide +kernel
theorem dX7_custom_1 : decode cX7_custom 1 = .ok (.ifCond .lt 14, 3) := by decide +kernel
theorem dX7_custom_4 : decode cX7_custom 4 = .ok (.iload_n 1, 1) := by decide +kernel
theorem dX7_custom_5 : decode cX7_custom 5 = .ok (.aload_n 0, 1) := by decide +kernel
theorem dX7_custom_6 : decode cX7_custom 6 = .ok (.getfield 10, 3) := by decide +kernel
theorem dX7_custom_9 : decode cX7_custom 9 = .ok (.getfield 66, 3) := by decide +kernel
theorem dX7_custom_12 : decode cX7_custom 12 = .ok (.if_icmp .le 5, 3) := by decide +kernel
theorem dX7_custom_15 : decode cX7_custom 15 = .ok (.iconst (-1), 1) := by decide +kernel
theorem dX7_custom_16 : decode cX7_custom 16 = .ok (.ireturn, 1) := by decide +kernel
theorem dX7_custom_17 : decode cX7_custom 17 = .ok (.aload_n 0, 1) := by decide +kernel
theorem dX7_custom_18 : decode cX7_custom 18 = .ok (.getfield 19, 3) := by decide +kernel
theorem dX7_custom_21 : decode cX7_custom 21 = .ok (.aload_n 0, 1) := by decide +kernel
theorem dX7_custom_22 : decode cX7_custom 22 = .ok (.getfield 10, 3) := by decide +kernel
theorem dX7_custom_25 : decode cX7_custom 25 = .ok (.iload_n 1, 1) := by decide +kernel
theorem dX7_custom_26 : decode cX7_custom 26 = .ok (.invokevirtual 73, 3) := by decide +kernel
theorem dX7_custom_29 : decode cX7_custom 29 = .ok (.istore_n 2, 1) := by decide +kernel
theorem dX7_custom_30 : decode cX7_custom 30 = .ok (.aload_n 0, 1) := by decide +kernel
theorem dX7_custom_31 : decode cX7_custom 31 = .ok (.getfield 10, 3) := by decide +kernel
theorem dX7_custom_34 : decode cX7_custom 34 = .ok (.iconst 0, 1) := by decide +kernel
theorem dX7_custom_35 : decode cX7_custom 35 = .ok (.putfield 66, 3) := by decide +kernel
theorem dX7_custom_38 : decode cX7_custom 38 = .ok (.iload_n 2, 1) := by decide +kernel
theorem dX7_custom_39 : decode cX7_custom 39 = .ok (.ireturn, 1) := by decide +kernel
theorem dX7_islands_0 : decode cX7_islands 0 = .ok (.iload_n 1, 1) := by decide +kernel
theorem dX7_islands_1 : decode cX7_islands 1 = .ok (.iconst 3, 1) := by decide +kernel
theorem dX7_islands_2 : decode cX7_islands 2 = .ok (.if_icmp .lt 16, 3) := by decide +kernel
theorem dX7_islands_5 : decode cX7_islands 5 = .ok (.iload_n 1, 1) := by decide +kernel
theorem dX7_islands_6 : decode cX7_islands 6 = .ok (.bipush 8, 2) := by decide +kernel
theorem dX7_islands_8 : decode cX7_islands 8 = .ok (.if_icmp .gt 10, 3) := by decide +kernel
theorem dX7_islands_11 : decode cX7_islands 11 = .ok (.aload_n 0, 1) := by decide +kernel
theorem dX7_islands_12 : decode cX7_islands 12 = .ok (.getfield 57, 3) := by decide +kernel
theorem dX7_islands_15 : decode cX7_islands 15 = .ok (.ifCond .le 5, 3) := by decide +kernel
theorem dX7_islands_18 : decode cX7_islands 18 = .ok (.iconst 0, 1) := by decide +kernel
theorem dX7_islands_19 : decode cX7_islands 19 = .ok (.ireturn, 1) := by decide +kernel
theorem dX7_islands_20 : decode cX7_islands 20 = .ok (.aload_n 0, 1) := by decide +kernel
theorem dX7_islands_21 : decode cX7_islands 21 = .ok (.iload_n 1, 1) := by decide +kernel
theorem dX7_islands_22 : decode cX7_islands 22 = .ok (.putfield 53, 3) := by decide +kernel
theorem dX7_islands_25 : decode cX7_islands 25 = .ok (.iconst 1, 1) := by decide +kernel
theorem dX7_islands_26 : decode cX7_islands 26 = .ok (.ireturn, 1) := by decide +kernel
theorem dX7_man_0 : decode cX7_man 0 = .ok (.aload_n 0, 1) := by decide +kernel
theorem dX7_man_1 : decode cX7_man 1 = .ok (.iload_n 1, 1) := by decide +kernel
theorem dX7_man_2 : decode cX7_man 2 = .ok (.invokevirtual 77, 3) := by decide +kernel
theorem dX7_man_5 : decode cX7_man 5 = .ok (.ifCond .eq 12, 3) := by decide +kernel
theorem dX7_man_8 : decode cX7_man 8 = .ok (.aload_n 0, 1) := by decide +kernel
theorem dX7_man_9 : decode cX7_man 9 = .ok (.getfield 57, 3) := by decide +kernel
theorem dX7_man_12 : decode cX7_man 12 = .ok (.bipush 16, 2) := by decide +kernel
theorem dX7_man_14 : decode cX7_man 14 = .ok (.if_icmp .lt 5, 3) := by decide +kernel
theorem dX7_man_17 : decode cX7_man 17 = .ok (.iconst (-1), 1) := by decide +kernel
theorem dX7_man_18 : decode cX7_man 18 = .ok (.ireturn, 1) := by decide +kernel
theorem dX7_man_19 : decode cX7_man 19 = .ok (.aload_n 0, 1) := by decide +kernel
theorem dX7_man_20 : decode cX7_man 20 = .ok (.getfield 25, 3) := by decide +kernel
theorem dX7_man_23 : decode cX7_man 23 = .ok (.aload_n 0, 1) := by decide +kernel
theorem dX7_man_24 : decode cX7_man 24 = .ok (.getfield 57, 3) := by decide +kernel
theorem dX7_man_27 : decode cX7_man 27 = .ok (.new 23, 3) := by decide +kernel
theorem dX7_man_30 : decode cX7_man 30 = .ok (.dup, 1) := by decide +kernel
theorem dX7_man_31 : decode cX7_man 31 = .ok (.iload_n 1, 1) := by decide +kernel
theorem dX7_man_32 : decode cX7_man 32 = .ok (.invokespecial 81, 3) := by decide +kernel
theorem dX7_man_35 : decode cX7_man 35 = .ok (.aastore, 1) := by decide +kernel
theorem dX7_man_36 : decode cX7_man 36 = .ok (.aload_n 0, 1) := by decide +kernel
theorem dX7_man_37 : decode cX7_man 37 = .ok (.dup, 1) := by decide +kernel
theorem dX7_man_38 : decode cX7_man 38 = .ok (.getfield 57, 3) := by decide +kernel
theorem dX7_man_41 : decode cX7_man 41 = .ok (.iconst 1, 1) := by decide +kernel
theorem dX7_man_42 : decode cX7_man 42 = .ok (.iadd, 1) := by decide +kernel
theorem dX7_man_43 : decode cX7_man 43 = .ok (.putfield 57, 3) := by decide +kernel
theorem dX7_man_46 : decode cX7_man 46 = .ok (.aload_n 0, 1) := by decide +kernel
theorem dX7_man_47 : decode cX7_man 47 = .ok (.getfield 57, 3) := by decide +kernel
theorem dX7_man_50 : decode cX7_man 50 = .ok (.iconst 1, 1) := by decide +kernel
theorem dX7_man_51 : decode cX7_man 51 = .ok (.isub, 1) := by decide +kernel
theorem dX7_man_52 : decode cX7_man 52 = .ok (.ireturn, 1) := by decide +kernel
theorem dX7_partners_0 : decode cX7_partners 0 = .ok (.aload_n 0, 1) := by decide +kernel
theorem dX7_partners_1 : decode cX7_partners 1 = .ok (.iload_n 1, 1) := by decide +kernel
theorem dX7_partners_2 : decode cX7_partners 2 = .ok (.invokevirtual 83, 3) := by decide +kernel
theorem dX7_partners_5 : decode cX7_partners 5 = .ok (.astore_n 3, 1) := by decide +kernel
theorem dX7_partners_6 : decode cX7_partners 6 = .ok (.aload_n 0, 1) := by decide +kernel
theorem dX7_partners_7 : decode cX7_partners 7 = .ok (.iload_n 2, 1) := by decide +kernel
theorem dX7_partners_8 : decode cX7_partners 8 = .ok (.invokevirtual 83, 3) := by decide +kernel
theorem dX7_partners_11 : decode cX7_partners 11 = .ok (.astore 4, 2) := by decide +kernel
theorem dX7_partners_13 : decode cX7_partners 13 = .ok (.aload_n 3, 1) := by decide +kernel
theorem dX7_partners_14 : decode cX7_partners 14 = .ok (.ifnull 16, 3) := by decide +kernel
theorem dX7_partners_17 : decode cX7_partners 17 = .ok (.aload 4, 2) := by decide +kernel
theorem dX7_partners_19 : decode cX7_partners 19 = .ok (.ifnull 11, 3) := by decide +kernel
theorem dX7_partners_22 : decode cX7_partners 22 = .ok (.aload_n 3, 1) := by decide +kernel
theorem dX7_partners_23 : decode cX7_partners 23 = .ok (.iload_n 2, 1) := by decide +kernel
theorem dX7_partners_24 : decode cX7_partners 24 = .ok (.invokevirtual 87, 3) := by decide +kernel
theorem dX7_partners_27 : decode cX7_partners 27 = .ok (.ifCond .eq 5, 3) := by decide +kernel
theorem dX7_partners_30 : decode cX7_partners 30 = .ok (.iconst 0, 1) := by decide +kernel
theorem dX7_partners_31 : decode cX7_partners 31 = .ok (.ireturn, 1) := by decide +kernel
theorem dX7_partners_32 : decode cX7_partners 32 = .ok (.aload_n 0, 1) := by decide +kernel
theorem dX7_partners_33 : decode cX7_partners 33 = .ok (.aload_n 3, 1) := by decide +kernel
theorem dX7_partners_34 : decode cX7_partners 34 = .ok (.getfield 90, 3) := by decide +kernel
theorem dX7_partners_37 : decode cX7_partners 37 = .ok (.aload 4, 2) := by decide +kernel
theorem dX7_partners_39 : decode cX7_partners 39 = .ok (.getfield 90, 3) := by decide +kernel
theorem dX7_partners_42 : decode cX7_partners 42 = .ok (.invokevirtual 93, 3) := by decide +kernel
theorem dX7_partners_45 : decode cX7_partners 45 = .ok (.iconst 1, 1) := by decide +kernel
theorem dX7_partners_46 : decode cX7_partners 46 = .ok (.if_icmp .eq 5, 3) := by decide +kernel
theorem dX7_partners_49 : decode cX7_partners 49 = .ok (.iconst 0, 1) := by decide +kernel
theorem dX7_partners_50 : decode cX7_partners 50 = .ok (.ireturn, 1) := by decide +kernel
theorem dX7_partners_51 : decode cX7_partners 51 = .ok (.aload_n 3, 1) := by decide +kernel
theorem dX7_partners_52 : decode cX7_partners 52 = .ok (.iload_n 2, 1) := by decide +kernel
theorem dX7_partners_53 : decode cX7_partners 53 = .ok (.invokevirtual 97, 3) := by decide +kernel
theorem dX7_partners_56 : decode cX7_partners 56 = .ok (.aload 4, 2) := by decide +kernel
theorem dX7_partners_58 : decode cX7_partners 58 = .ok (.iload_n 1, 1) := by decide +kernel
theorem dX7_partners_59 : decode cX7_partners 59 = .ok (.invokevirtual 97, 3) := by decide +kernel
theorem dX7_partners_62 : decode cX7_partners 62 = .ok (.iconst 1, 1) := by decide +kernel
theorem dX7_partners_63 : decode cX7_partners 63 = .ok (.ireturn, 1) := by decide +kernel
theorem dX7_treasure_0 : decode cX7_treasure 0 = .ok (.iload_n 1, 1) := by decide +kernel
theorem dX7_treasure_1 : decode cX7_treasure 1 = .ok (.ifCond .eq 10, 3) := by decide +kernel
theorem dX7_treasure_4 : decode cX7_treasure 4 = .ok (.iload_n 1, 1) := by decide +kernel
theorem dX7_treasure_5 : decode cX7_treasure 5 = .ok (.iconst 1, 1) := by decide +kernel
theorem dX7_treasure_6 : decode cX7_treasure 6 = .ok (.if_icmp .eq 5, 3) := by decide +kernel
theorem dX7_treasure_9 : decode cX7_treasure 9 = .ok (.iconst (-1), 1) := by decide +kernel
theorem dX7_treasure_10 : decode cX7_treasure 10 = .ok (.ireturn, 1) := by decide +kernel
theorem dX7_treasure_11 : decode cX7_treasure 11 = .ok (.iload_n 2, 1) := by decide +kernel
theorem dX7_treasure_12 : decode cX7_treasure 12 = .ok (.iconst 1, 1) := by decide +kernel
theorem dX7_treasure_13 : decode cX7_treasure 13 = .ok (.if_icmp .lt 10, 3) := by decide +kernel
theorem dX7_treasure_16 : decode cX7_treasure 16 = .ok (.iload_n 2, 1) := by decide +kernel
theorem dX7_treasure_17 : decode cX7_treasure 17 = .ok (.sipush 999, 3) := by decide +kernel
theorem dX7_treasure_20 : decode cX7_treasure 20 = .ok (.if_icmp .le 5, 3) := by decide +kernel
theorem dX7_treasure_23 : decode cX7_treasure 23 = .ok (.iconst (-1), 1) := by decide +kernel
theorem dX7_treasure_24 : decode cX7_treasure 24 = .ok (.ireturn, 1) := by decide +kernel
theorem dX7_treasure_25 : decode cX7_treasure 25 = .ok (.aload_n 0, 1) := by decide +kernel
theorem dX7_treasure_26 : decode cX7_treasure 26 = .ok (.iload_n 3, 1) := by decide +kernel
theorem dX7_treasure_27 : decode cX7_treasure 27 = .ok (.invokevirtual 83, 3) := by decide +kernel
theorem dX7_treasure_30 : decode cX7_treasure 30 = .ok (.ifnull 12, 3) := by decide +kernel
theorem dX7_treasure_33 : decode cX7_treasure 33 = .ok (.aload_n 0, 1) := by decide +kernel
theorem dX7_treasure_34 : decode cX7_treasure 34 = .ok (.getfield 60, 3) := by decide +kernel
theorem dX7_treasure_37 : decode cX7_treasure 37 = .ok (.bipush 24, 2) := by decide +kernel
theorem dX7_treasure_39 : decode cX7_treasure 39 = .ok (.if_icmp .lt 5, 3) := by decide +kernel
theorem dX7_treasure_42 : decode cX7_treasure 42 = .ok (.iconst (-1), 1) := by decide +kernel
theorem dX7_treasure_43 : decode cX7_treasure 43 = .ok (.ireturn, 1) := by decide +kernel
theorem dX7_treasure_44 : decode cX7_treasure 44 = .ok (.new 29, 3) := by decide +kernel
theorem dX7_treasure_47 : decode cX7_treasure 47 = .ok (.dup, 1) := by decide +kernel
theorem dX7_treasure_48 : decode cX7_treasure 48 = .ok (.iload_n 1, 1) := by decide +kernel
theorem dX7_treasure_49 : decode cX7_treasure 49 = .ok (.iload_n 2, 1) := by decide +kernel
theorem dX7_treasure_50 : decode cX7_treasure 50 = .ok (.invokespecial 100, 3) := by decide +kernel
theorem dX7_treasure_53 : decode cX7_treasure 53 = .ok (.astore 4, 2) := by decide +kernel
theorem dX7_treasure_55 : decode cX7_treasure 55 = .ok (.aload 4, 2) := by decide +kernel
theorem dX7_treasure_57 : decode cX7_treasure 57 = .ok (.iload_n 3, 1) := by decide +kernel
theorem dX7_treasure_58 : decode cX7_treasure 58 = .ok (.aload_n 0, 1) := by decide +kernel
theorem dX7_treasure_59 : decode cX7_treasure 59 = .ok (.getfield 63, 3) := by decide +kernel
theorem dX7_treasure_62 : decode cX7_treasure 62 = .ok (.invokevirtual 103, 3) := by decide +kernel
theorem dX7_treasure_65 : decode cX7_treasure 65 = .ok (.aload_n 0, 1) := by decide +kernel
theorem dX7_treasure_66 : decode cX7_treasure 66 = .ok (.getfield 31, 3) := by decide +kernel
theorem dX7_treasure_69 : decode cX7_treasure 69 = .ok (.aload_n 0, 1) := by decide +kernel
theorem dX7_treasure_70 : decode cX7_treasure 70 = .ok (.getfield 60, 3) := by decide +kernel
theorem dX7_treasure_73 : decode cX7_treasure 73 = .ok (.aload 4, 2) := by decide +kernel
theorem dX7_treasure_75 : decode cX7_treasure 75 = .ok (.aastore, 1) := by decide +kernel
theorem dX7_treasure_76 : decode cX7_treasure 76 = .ok (.aload_n 0, 1) := by decide +kernel
theorem dX7_treasure_77 : decode cX7_treasure 77 = .ok (.dup, 1) := by decide +kernel
theorem dX7_treasure_78 : decode cX7_treasure 78 = .ok (.getfield 60, 3) := by decide +kernel
theorem dX7_treasure_81 : decode cX7_treasure 81 = .ok (.iconst 1, 1) := by decide +kernel
theorem dX7_treasure_82 : decode cX7_treasure 82 = .ok (.iadd, 1) := by decide +kernel
theorem dX7_treasure_83 : decode cX7_treasure 83 = .ok (.putfield 60, 3) := by decide +kernel
theorem dX7_treasure_86 : decode cX7_treasure 86 = .ok (.aload_n 0, 1) := by decide +kernel
theorem dX7_treasure_87 : decode cX7_treasure 87 = .ok (.getfield 60, 3) := by decide +kernel
theorem dX7_treasure_90 : decode cX7_treasure 90 = .ok (.iconst 1, 1) := by decide +kernel
theorem dX7_treasure_91 : decode cX7_treasure 91 = .ok (.isub, 1) := by decide +kernel
theorem dX7_treasure_92 : decode cX7_treasure 92 = .ok (.ireturn, 1) := by decide +kernel
theorem dX7_isIsland_0 : decode cX7_isIsland 0 = .ok (.iload_n 1, 1) := by decide +kernel
theorem dX7_isIsland_1 : decode cX7_isIsland 1 = .ok (.ifCond .lt 15, 3) := by decide +kernel
theorem dX7_isIsland_4 : decode cX7_isIsland 4 = .ok (.iload_n 1, 1) := by decide +kernel
theorem dX7_isIsland_5 : decode cX7_isIsland 5 = .ok (.aload_n 0, 1) := by decide +kernel
theorem dX7_isIsland_6 : decode cX7_isIsland 6 = .ok (.getfield 53, 3) := by decide +kernel
theorem dX7_isIsland_9 : decode cX7_isIsland 9 = .ok (.if_icmp .ge 7, 3) := by decide +kernel
theorem dX7_isIsland_12 : decode cX7_isIsland 12 = .ok (.iconst 1, 1) := by decide +kernel
theorem dX7_isIsland_13 : decode cX7_isIsland 13 = .ok (.goto 4, 3) := by decide +kernel
theorem dX7_isIsland_16 : decode cX7_isIsland 16 = .ok (.iconst 0, 1) := by decide +kernel
theorem dX7_isIsland_17 : decode cX7_isIsland 17 = .ok (.ireturn, 1) := by decide +kernel
theorem dX7_anyMan_0 : decode cX7_anyMan 0 = .ok (.iload_n 1, 1) := by decide +kernel
theorem dX7_anyMan_1 : decode cX7_anyMan 1 = .ok (.ifCond .lt 20, 3) := by decide +kernel
theorem dX7_anyMan_4 : decode cX7_anyMan 4 = .ok (.iload_n 1, 1) := by decide +kernel
theorem dX7_anyMan_5 : decode cX7_anyMan 5 = .ok (.aload_n 0, 1) := by decide +kernel
theorem dX7_anyMan_6 : decode cX7_anyMan 6 = .ok (.getfield 57, 3) := by decide +kernel
theorem dX7_anyMan_9 : decode cX7_anyMan 9 = .ok (.if_icmp .ge 12, 3) := by decide +kernel
theorem dX7_anyMan_12 : decode cX7_anyMan 12 = .ok (.aload_n 0, 1) := by decide +kernel
theorem dX7_anyMan_13 : decode cX7_anyMan 13 = .ok (.getfield 25, 3) := by decide +kernel
theorem dX7_anyMan_16 : decode cX7_anyMan 16 = .ok (.iload_n 1, 1) := by decide +kernel
theorem dX7_anyMan_17 : decode cX7_anyMan 17 = .ok (.aaload, 1) := by decide +kernel
theorem dX7_anyMan_18 : decode cX7_anyMan 18 = .ok (.goto 4, 3) := by decide +kernel
theorem dX7_anyMan_21 : decode cX7_anyMan 21 = .ok (.aconst_null, 1) := by decide +kernel
theorem dX7_anyMan_22 : decode cX7_anyMan 22 = .ok (.areturn, 1) := by decide +kernel
theorem dX7_livingMan_0 : decode cX7_livingMan 0 = .ok (.aload_n 0, 1) := by decide +kernel
theorem dX7_livingMan_1 : decode cX7_livingMan 1 = .ok (.iload_n 1, 1) := by decide +kernel
theorem dX7_livingMan_2 : decode cX7_livingMan 2 = .ok (.invokevirtual 106, 3) := by decide +kernel
theorem dX7_livingMan_5 : decode cX7_livingMan 5 = .ok (.astore_n 2, 1) := by decide +kernel
theorem dX7_livingMan_6 : decode cX7_livingMan 6 = .ok (.aload_n 2, 1) := by decide +kernel
theorem dX7_livingMan_7 : decode cX7_livingMan 7 = .ok (.ifnull 14, 3) := by decide +kernel
theorem dX7_livingMan_10 : decode cX7_livingMan 10 = .ok (.aload_n 2, 1) := by decide +kernel
theorem dX7_livingMan_11 : decode cX7_livingMan 11 = .ok (.getfield 109, 3) := by decide +kernel
theorem dX7_livingMan_14 : decode cX7_livingMan 14 = .ok (.ifCond .eq 7, 3) := by decide +kernel
theorem dX7_livingMan_17 : decode cX7_livingMan 17 = .ok (.aload_n 2, 1) := by decide +kernel
theorem dX7_livingMan_18 : decode cX7_livingMan 18 = .ok (.goto 4, 3) := by decide +kernel
theorem dX7_livingMan_21 : decode cX7_livingMan 21 = .ok (.aconst_null, 1) := by decide +kernel
theorem dX7_livingMan_22 : decode cX7_livingMan 22 = .ok (.areturn, 1) := by decide +kernel
theorem dX7_anyTreasure_0 : decode cX7_anyTreasure 0 = .ok (.iload_n 1, 1) := by decide +kernel
theorem dX7_anyTreasure_1 : decode cX7_anyTreasure 1 = .ok (.ifCond .lt 20, 3) := by decide +kernel
theorem dX7_anyTreasure_4 : decode cX7_anyTreasure 4 = .ok (.iload_n 1, 1) := by decide +kernel
theorem dX7_anyTreasure_5 : decode cX7_anyTreasure 5 = .ok (.aload_n 0, 1) := by decide +kernel
theorem dX7_anyTreasure_6 : decode cX7_anyTreasure 6 = .ok (.getfield 60, 3) := by decide +kernel
theorem dX7_anyTreasure_9 : decode cX7_anyTreasure 9 = .ok (.if_icmp .ge 12, 3) := by decide +kernel
theorem dX7_anyTreasure_12 : decode cX7_anyTreasure 12 = .ok (.aload_n 0, 1) := by decide +kernel
theorem dX7_anyTreasure_13 : decode cX7_anyTreasure 13 = .ok (.getfield 31, 3) := by decide +kernel
theorem dX7_anyTreasure_16 : decode cX7_anyTreasure 16 = .ok (.iload_n 1, 1) := by decide +kernel
theorem dX7_anyTreasure_17 : decode cX7_anyTreasure 17 = .ok (.aaload, 1) := by decide +kernel
theorem dX7_anyTreasure_18 : decode cX7_anyTreasure 18 = .ok (.goto 4, 3) := by decide +kernel
theorem dX7_anyTreasure_21 : decode cX7_anyTreasure 21 = .ok (.aconst_null, 1) := by decide +kernel
theorem dX7_anyTreasure_22 : decode cX7_anyTreasure 22 = .ok (.areturn, 1) := by decide +kernel
theorem dX7_stepsBetween_0 : decode cX7_stepsBetween 0 = .ok (.iload_n 1, 1) := by decide +kernel
theorem dX7_stepsBetween_1 : decode cX7_stepsBetween 1 = .ok (.iload_n 2, 1) := by decide +kernel
theorem dX7_stepsBetween_2 : decode cX7_stepsBetween 2 = .ok (.isub, 1) := by decide +kernel
theorem dX7_stepsBetween_3 : decode cX7_stepsBetween 3 = .ok (.invokestatic 113, 3) := by decide +kernel
theorem dX7_stepsBetween_6 : decode cX7_stepsBetween 6 = .ok (.istore_n 3, 1) := by decide +kernel
theorem dX7_stepsBetween_7 : decode cX7_stepsBetween 7 = .ok (.iload_n 3, 1) := by decide +kernel
theorem dX7_stepsBetween_8 : decode cX7_stepsBetween 8 = .ok (.aload_n 0, 1) := by decide +kernel
theorem dX7_stepsBetween_9 : decode cX7_stepsBetween 9 = .ok (.getfield 53, 3) := by decide +kernel
theorem dX7_stepsBetween_12 : decode cX7_stepsBetween 12 = .ok (.iload_n 3, 1) := by decide +kernel
theorem dX7_stepsBetween_13 : decode cX7_stepsBetween 13 = .ok (.isub, 1) := by decide +kernel
theorem dX7_stepsBetween_14 : decode cX7_stepsBetween 14 = .ok (.invokestatic 119, 3) := by decide +kernel
theorem dX7_stepsBetween_17 : decode cX7_stepsBetween 17 = .ok (.ireturn, 1) := by decide +kernel
theorem dX7_give_0 : decode cX7_give 0 = .ok (.aload_n 0, 1) := by decide +kernel
theorem dX7_give_1 : decode cX7_give 1 = .ok (.iload_n 3, 1) := by decide +kernel
theorem dX7_give_2 : decode cX7_give 2 = .ok (.invokevirtual 122, 3) := by decide +kernel
theorem dX7_give_5 : decode cX7_give 5 = .ok (.astore 4, 2) := by decide +kernel
theorem dX7_give_7 : decode cX7_give 7 = .ok (.aload_n 0, 1) := by decide +kernel
theorem dX7_give_8 : decode cX7_give 8 = .ok (.iload_n 1, 1) := by decide +kernel
theorem dX7_give_9 : decode cX7_give 9 = .ok (.invokevirtual 83, 3) := by decide +kernel
theorem dX7_give_12 : decode cX7_give 12 = .ok (.astore 5, 2) := by decide +kernel
theorem dX7_give_14 : decode cX7_give 14 = .ok (.aload 4, 2) := by decide +kernel
theorem dX7_give_16 : decode cX7_give 16 = .ok (.ifnull 17, 3) := by decide +kernel
theorem dX7_give_19 : decode cX7_give 19 = .ok (.aload 5, 2) := by decide +kernel
theorem dX7_give_21 : decode cX7_give 21 = .ok (.ifnull 12, 3) := by decide +kernel
theorem dX7_give_24 : decode cX7_give 24 = .ok (.aload 4, 2) := by decide +kernel
theorem dX7_give_26 : decode cX7_give 26 = .ok (.iload_n 1, 1) := by decide +kernel
theorem dX7_give_27 : decode cX7_give 27 = .ok (.invokevirtual 126, 3) := by decide +kernel
theorem dX7_give_30 : decode cX7_give 30 = .ok (.ifCond .ne 5, 3) := by decide +kernel
theorem dX7_give_33 : decode cX7_give 33 = .ok (.iconst (-1), 1) := by decide +kernel
theorem dX7_give_34 : decode cX7_give 34 = .ok (.ireturn, 1) := by decide +kernel
theorem dX7_give_35 : decode cX7_give 35 = .ok (.aload 4, 2) := by decide +kernel
theorem dX7_give_37 : decode cX7_give 37 = .ok (.aload_n 0, 1) := by decide +kernel
theorem dX7_give_38 : decode cX7_give 38 = .ok (.getfield 63, 3) := by decide +kernel
theorem dX7_give_41 : decode cX7_give 41 = .ok (.invokevirtual 129, 3) := by decide +kernel
theorem dX7_give_44 : decode cX7_give 44 = .ok (.ifCond .eq 17, 3) := by decide +kernel
theorem dX7_give_47 : decode cX7_give 47 = .ok (.aload_n 0, 1) := by decide +kernel
theorem dX7_give_48 : decode cX7_give 48 = .ok (.iload_n 1, 1) := by decide +kernel
theorem dX7_give_49 : decode cX7_give 49 = .ok (.iload_n 2, 1) := by decide +kernel
theorem dX7_give_50 : decode cX7_give 50 = .ok (.aload 4, 2) := by decide +kernel
theorem dX7_give_52 : decode cX7_give 52 = .ok (.getfield 132, 3) := by decide +kernel
theorem dX7_give_55 : decode cX7_give 55 = .ok (.invokevirtual 135, 3) := by decide +kernel
theorem dX7_give_58 : decode cX7_give 58 = .ok (.ifCond .ne 5, 3) := by decide +kernel
theorem dX7_give_61 : decode cX7_give 61 = .ok (.iconst (-1), 1) := by decide +kernel
theorem dX7_give_62 : decode cX7_give 62 = .ok (.ireturn, 1) := by decide +kernel
theorem dX7_give_63 : decode cX7_give 63 = .ok (.aload_n 0, 1) := by decide +kernel
theorem dX7_give_64 : decode cX7_give 64 = .ok (.iload_n 1, 1) := by decide +kernel
theorem dX7_give_65 : decode cX7_give 65 = .ok (.iload_n 2, 1) := by decide +kernel
theorem dX7_give_66 : decode cX7_give 66 = .ok (.iload_n 3, 1) := by decide +kernel
theorem dX7_give_67 : decode cX7_give 67 = .ok (.aload 4, 2) := by decide +kernel
theorem dX7_give_69 : decode cX7_give 69 = .ok (.invokevirtual 139, 3) := by decide +kernel
theorem dX7_give_72 : decode cX7_give 72 = .ok (.istore 6, 2) := by decide +kernel
theorem dX7_give_74 : decode cX7_give 74 = .ok (.iload 6, 2) := by decide +kernel
theorem dX7_give_76 : decode cX7_give 76 = .ok (.iconst (-1), 1) := by decide +kernel
theorem dX7_give_77 : decode cX7_give 77 = .ok (.if_icmp .eq 53, 3) := by decide +kernel
theorem dX7_give_80 : decode cX7_give 80 = .ok (.aload 5, 2) := by decide +kernel
theorem dX7_give_82 : decode cX7_give 82 = .ok (.dup, 1) := by decide +kernel
theorem dX7_give_83 : decode cX7_give 83 = .ok (.getfield 143, 3) := by decide +kernel
theorem dX7_give_86 : decode cX7_give 86 = .ok (.iload 6, 2) := by decide +kernel
theorem dX7_give_88 : decode cX7_give 88 = .ok (.iconst 2, 1) := by decide +kernel
theorem dX7_give_89 : decode cX7_give 89 = .ok (.if_icmp .ne 13, 3) := by decide +kernel
theorem dX7_give_92 : decode cX7_give 92 = .ok (.aload 4, 2) := by decide +kernel
theorem dX7_give_94 : decode cX7_give 94 = .ok (.getfield 146, 3) := by decide +kernel
theorem dX7_give_97 : decode cX7_give 97 = .ok (.iconst 2, 1) := by decide +kernel
theorem dX7_give_98 : decode cX7_give 98 = .ok (.idiv, 1) := by decide +kernel
theorem dX7_give_99 : decode cX7_give 99 = .ok (.goto 8, 3) := by decide +kernel
theorem dX7_give_102 : decode cX7_give 102 = .ok (.aload 4, 2) := by decide +kernel
theorem dX7_give_104 : decode cX7_give 104 = .ok (.getfield 146, 3) := by decide +kernel
theorem dX7_give_107 : decode cX7_give 107 = .ok (.iadd, 1) := by decide +kernel
theorem dX7_give_108 : decode cX7_give 108 = .ok (.putfield 143, 3) := by decide +kernel
theorem dX7_give_111 : decode cX7_give 111 = .ok (.aload 4, 2) := by decide +kernel
theorem dX7_give_113 : decode cX7_give 113 = .ok (.aload_n 0, 1) := by decide +kernel
theorem dX7_give_114 : decode cX7_give 114 = .ok (.getfield 63, 3) := by decide +kernel
theorem dX7_give_117 : decode cX7_give 117 = .ok (.putfield 149, 3) := by decide +kernel
theorem dX7_give_120 : decode cX7_give 120 = .ok (.aload 4, 2) := by decide +kernel
theorem dX7_give_122 : decode cX7_give 122 = .ok (.iload_n 2, 1) := by decide +kernel
theorem dX7_give_123 : decode cX7_give 123 = .ok (.aload_n 0, 1) := by decide +kernel
theorem dX7_give_124 : decode cX7_give 124 = .ok (.getfield 63, 3) := by decide +kernel
theorem dX7_give_127 : decode cX7_give 127 = .ok (.invokevirtual 103, 3) := by decide +kernel
theorem dX7_give_130 : decode cX7_give 130 = .ok (.iload 6, 2) := by decide +kernel
theorem dX7_give_132 : decode cX7_give 132 = .ok (.ireturn, 1) := by decide +kernel
theorem dX7_isOnWay_0 : decode cX7_isOnWay 0 = .ok (.aload_n 0, 1) := by decide +kernel
theorem dX7_isOnWay_1 : decode cX7_isOnWay 1 = .ok (.iload_n 1, 1) := by decide +kernel
theorem dX7_isOnWay_2 : decode cX7_isOnWay 2 = .ok (.invokevirtual 83, 3) := by decide +kernel
theorem dX7_isOnWay_5 : decode cX7_isOnWay 5 = .ok (.astore 4, 2) := by decide +kernel
theorem dX7_isOnWay_7 : decode cX7_isOnWay 7 = .ok (.aload_n 0, 1) := by decide +kernel
theorem dX7_isOnWay_8 : decode cX7_isOnWay 8 = .ok (.iload_n 2, 1) := by decide +kernel
theorem dX7_isOnWay_9 : decode cX7_isOnWay 9 = .ok (.invokevirtual 83, 3) := by decide +kernel
theorem dX7_isOnWay_12 : decode cX7_isOnWay 12 = .ok (.astore 5, 2) := by decide +kernel
theorem dX7_isOnWay_14 : decode cX7_isOnWay 14 = .ok (.aload 4, 2) := by decide +kernel
theorem dX7_isOnWay_16 : decode cX7_isOnWay 16 = .ok (.ifnull 17, 3) := by decide +kernel
theorem dX7_isOnWay_19 : decode cX7_isOnWay 19 = .ok (.aload 5, 2) := by decide +kernel
theorem dX7_isOnWay_21 : decode cX7_isOnWay 21 = .ok (.ifnull 12, 3) := by decide +kernel
theorem dX7_isOnWay_24 : decode cX7_isOnWay 24 = .ok (.aload 4, 2) := by decide +kernel
theorem dX7_isOnWay_26 : decode cX7_isOnWay 26 = .ok (.iload_n 2, 1) := by decide +kernel
theorem dX7_isOnWay_27 : decode cX7_isOnWay 27 = .ok (.invokevirtual 87, 3) := by decide +kernel
theorem dX7_isOnWay_30 : decode cX7_isOnWay 30 = .ok (.ifCond .ne 5, 3) := by decide +kernel
theorem dX7_isOnWay_33 : decode cX7_isOnWay 33 = .ok (.iconst 0, 1) := by decide +kernel
theorem dX7_isOnWay_34 : decode cX7_isOnWay 34 = .ok (.ireturn, 1) := by decide +kernel
theorem dX7_isOnWay_35 : decode cX7_isOnWay 35 = .ok (.iload_n 3, 1) := by decide +kernel
theorem dX7_isOnWay_36 : decode cX7_isOnWay 36 = .ok (.ifCond .ne 7, 3) := by decide +kernel
theorem dX7_isOnWay_39 : decode cX7_isOnWay 39 = .ok (.iconst 1, 1) := by decide +kernel
theorem dX7_isOnWay_40 : decode cX7_isOnWay 40 = .ok (.goto 9, 3) := by decide +kernel
theorem dX7_isOnWay_43 : decode cX7_isOnWay 43 = .ok (.aload_n 0, 1) := by decide +kernel
theorem dX7_isOnWay_44 : decode cX7_isOnWay 44 = .ok (.getfield 53, 3) := by decide +kernel
theorem dX7_isOnWay_47 : decode cX7_isOnWay 47 = .ok (.iconst 1, 1) := by decide +kernel
theorem dX7_isOnWay_48 : decode cX7_isOnWay 48 = .ok (.isub, 1) := by decide +kernel
theorem dX7_isOnWay_49 : decode cX7_isOnWay 49 = .ok (.istore 6, 2) := by decide +kernel
theorem dX7_isOnWay_51 : decode cX7_isOnWay 51 = .ok (.aload 4, 2) := by decide +kernel
theorem dX7_isOnWay_53 : decode cX7_isOnWay 53 = .ok (.getfield 90, 3) := by decide +kernel
theorem dX7_isOnWay_56 : decode cX7_isOnWay 56 = .ok (.iload 6, 2) := by decide +kernel
theorem dX7_isOnWay_58 : decode cX7_isOnWay 58 = .ok (.iadd, 1) := by decide +kernel
theorem dX7_isOnWay_59 : decode cX7_isOnWay 59 = .ok (.istore 7, 2) := by decide +kernel
theorem dX7_isOnWay_61 : decode cX7_isOnWay 61 = .ok (.iload 7, 2) := by decide +kernel
theorem dX7_isOnWay_63 : decode cX7_isOnWay 63 = .ok (.aload_n 0, 1) := by decide +kernel
theorem dX7_isOnWay_64 : decode cX7_isOnWay 64 = .ok (.getfield 53, 3) := by decide +kernel
theorem dX7_isOnWay_67 : decode cX7_isOnWay 67 = .ok (.if_icmp .lt 12, 3) := by decide +kernel
theorem dX7_isOnWay_70 : decode cX7_isOnWay 70 = .ok (.iload 7, 2) := by decide +kernel
theorem dX7_isOnWay_72 : decode cX7_isOnWay 72 = .ok (.aload_n 0, 1) := by decide +kernel
theorem dX7_isOnWay_73 : decode cX7_isOnWay 73 = .ok (.getfield 53, 3) := by decide +kernel
theorem dX7_isOnWay_76 : decode cX7_isOnWay 76 = .ok (.isub, 1) := by decide +kernel
theorem dX7_isOnWay_77 : decode cX7_isOnWay 77 = .ok (.istore 7, 2) := by decide +kernel
theorem dX7_isOnWay_79 : decode cX7_isOnWay 79 = .ok (.aload 5, 2) := by decide +kernel
theorem dX7_isOnWay_81 : decode cX7_isOnWay 81 = .ok (.getfield 90, 3) := by decide +kernel
theorem dX7_isOnWay_84 : decode cX7_isOnWay 84 = .ok (.iload 7, 2) := by decide +kernel
theorem dX7_isOnWay_86 : decode cX7_isOnWay 86 = .ok (.if_icmp .ne 7, 3) := by decide +kernel
theorem dX7_isOnWay_89 : decode cX7_isOnWay 89 = .ok (.iconst 1, 1) := by decide +kernel
theorem dX7_isOnWay_90 : decode cX7_isOnWay 90 = .ok (.goto 4, 3) := by decide +kernel
theorem dX7_isOnWay_93 : decode cX7_isOnWay 93 = .ok (.iconst 0, 1) := by decide +kernel
theorem dX7_isOnWay_94 : decode cX7_isOnWay 94 = .ok (.ireturn, 1) := by decide +kernel
theorem dX7_settle_0 : decode cX7_settle 0 = .ok (.aload 4, 2) := by decide +kernel
theorem dX7_settle_2 : decode cX7_settle 2 = .ok (.getfield 132, 3) := by decide +kernel
theorem dX7_settle_5 : decode cX7_settle 5 = .ok (.ifCond .ne 7, 3) := by decide +kernel
theorem dX7_settle_8 : decode cX7_settle 8 = .ok (.iconst 1, 1) := by decide +kernel
theorem dX7_settle_9 : decode cX7_settle 9 = .ok (.goto 4, 3) := by decide +kernel
theorem dX7_settle_12 : decode cX7_settle 12 = .ok (.iconst 0, 1) := by decide +kernel
theorem dX7_settle_13 : decode cX7_settle 13 = .ok (.istore 5, 2) := by decide +kernel
theorem dX7_settle_15 : decode cX7_settle 15 = .ok (.aload_n 0, 1) := by decide +kernel
theorem dX7_settle_16 : decode cX7_settle 16 = .ok (.getfield 38, 3) := by decide +kernel
theorem dX7_settle_19 : decode cX7_settle 19 = .ok (.iload_n 1, 1) := by decide +kernel
theorem dX7_settle_20 : decode cX7_settle 20 = .ok (.iload_n 2, 1) := by decide +kernel
theorem dX7_settle_21 : decode cX7_settle 21 = .ok (.iload 5, 2) := by decide +kernel
theorem dX7_settle_23 : decode cX7_settle 23 = .ok (.aload 4, 2) := by decide +kernel
theorem dX7_settle_25 : decode cX7_settle 25 = .ok (.getfield 146, 3) := by decide +kernel
theorem dX7_settle_28 : decode cX7_settle 28 = .ok (.invokevirtual 152, 3) := by decide +kernel
theorem dX7_settle_31 : decode cX7_settle 31 = .ok (.astore 6, 2) := by decide +kernel
theorem dX7_settle_33 : decode cX7_settle 33 = .ok (.aload 6, 2) := by decide +kernel
theorem dX7_settle_35 : decode cX7_settle 35 = .ok (.ifnull 11, 3) := by decide +kernel
theorem dX7_settle_38 : decode cX7_settle 38 = .ok (.aload 6, 2) := by decide +kernel
theorem dX7_settle_40 : decode cX7_settle 40 = .ok (.iload_n 3, 1) := by decide +kernel
theorem dX7_settle_41 : decode cX7_settle 41 = .ok (.putfield 156, 3) := by decide +kernel
theorem dX7_settle_44 : decode cX7_settle 44 = .ok (.iconst 1, 1) := by decide +kernel
theorem dX7_settle_45 : decode cX7_settle 45 = .ok (.ireturn, 1) := by decide +kernel
theorem dX7_settle_46 : decode cX7_settle 46 = .ok (.aload_n 0, 1) := by decide +kernel
theorem dX7_settle_47 : decode cX7_settle 47 = .ok (.getfield 38, 3) := by decide +kernel
theorem dX7_settle_50 : decode cX7_settle 50 = .ok (.iload_n 1, 1) := by decide +kernel
theorem dX7_settle_51 : decode cX7_settle 51 = .ok (.iload_n 2, 1) := by decide +kernel
theorem dX7_settle_52 : decode cX7_settle 52 = .ok (.aload_n 0, 1) := by decide +kernel
theorem dX7_settle_53 : decode cX7_settle 53 = .ok (.getfield 63, 3) := by decide +kernel
theorem dX7_settle_56 : decode cX7_settle 56 = .ok (.invokevirtual 161, 3) := by decide +kernel
theorem dX7_settle_59 : decode cX7_settle 59 = .ok (.ifCond .eq 5, 3) := by decide +kernel
theorem dX7_settle_62 : decode cX7_settle 62 = .ok (.iconst (-1), 1) := by decide +kernel
theorem dX7_settle_63 : decode cX7_settle 63 = .ok (.ireturn, 1) := by decide +kernel
theorem dX7_settle_64 : decode cX7_settle 64 = .ok (.aload_n 0, 1) := by decide +kernel
theorem dX7_settle_65 : decode cX7_settle 65 = .ok (.getfield 38, 3) := by decide +kernel
theorem dX7_settle_68 : decode cX7_settle 68 = .ok (.iload_n 1, 1) := by decide +kernel
theorem dX7_settle_69 : decode cX7_settle 69 = .ok (.iload_n 2, 1) := by decide +kernel
theorem dX7_settle_70 : decode cX7_settle 70 = .ok (.iload 5, 2) := by decide +kernel
theorem dX7_settle_72 : decode cX7_settle 72 = .ok (.invokevirtual 164, 3) := by decide +kernel
theorem dX7_settle_75 : decode cX7_settle 75 = .ok (.astore 7, 2) := by decide +kernel
theorem dX7_settle_77 : decode cX7_settle 77 = .ok (.aload 7, 2) := by decide +kernel
theorem dX7_settle_79 : decode cX7_settle 79 = .ok (.ifnull 17, 3) := by decide +kernel
theorem dX7_settle_82 : decode cX7_settle 82 = .ok (.aload 7, 2) := by decide +kernel
theorem dX7_settle_84 : decode cX7_settle 84 = .ok (.aload_n 0, 1) := by decide +kernel
theorem dX7_settle_85 : decode cX7_settle 85 = .ok (.getfield 19, 3) := by decide +kernel
theorem dX7_settle_88 : decode cX7_settle 88 = .ok (.invokevirtual 168, 3) := by decide +kernel
theorem dX7_settle_91 : decode cX7_settle 91 = .ok (.invokevirtual 172, 3) := by decide +kernel
theorem dX7_settle_94 : decode cX7_settle 94 = .ok (.iconst 2, 1) := by decide +kernel
theorem dX7_settle_95 : decode cX7_settle 95 = .ok (.ireturn, 1) := by decide +kernel
theorem dX7_settle_96 : decode cX7_settle 96 = .ok (.aload_n 0, 1) := by decide +kernel
theorem dX7_settle_97 : decode cX7_settle 97 = .ok (.getfield 38, 3) := by decide +kernel
theorem dX7_settle_100 : decode cX7_settle 100 = .ok (.invokevirtual 175, 3) := by decide +kernel
theorem dX7_settle_103 : decode cX7_settle 103 = .ok (.ifCond .eq 5, 3) := by decide +kernel
theorem dX7_settle_106 : decode cX7_settle 106 = .ok (.iconst (-1), 1) := by decide +kernel
theorem dX7_settle_107 : decode cX7_settle 107 = .ok (.ireturn, 1) := by decide +kernel
theorem dX7_settle_108 : decode cX7_settle 108 = .ok (.new 157, 3) := by decide +kernel
theorem dX7_settle_111 : decode cX7_settle 111 = .ok (.dup, 1) := by decide +kernel
theorem dX7_settle_112 : decode cX7_settle 112 = .ok (.iload_n 2, 1) := by decide +kernel
theorem dX7_settle_113 : decode cX7_settle 113 = .ok (.iload_n 1, 1) := by decide +kernel
theorem dX7_settle_114 : decode cX7_settle 114 = .ok (.iload_n 3, 1) := by decide +kernel
theorem dX7_settle_115 : decode cX7_settle 115 = .ok (.aload 4, 2) := by decide +kernel
theorem dX7_settle_117 : decode cX7_settle 117 = .ok (.getfield 132, 3) := by decide +kernel
theorem dX7_settle_120 : decode cX7_settle 120 = .ok (.invokespecial 179, 3) := by decide +kernel
theorem dX7_settle_123 : decode cX7_settle 123 = .ok (.astore 8, 2) := by decide +kernel
theorem dX7_settle_125 : decode cX7_settle 125 = .ok (.aload 8, 2) := by decide +kernel
theorem dX7_settle_127 : decode cX7_settle 127 = .ok (.aload_n 0, 1) := by decide +kernel
theorem dX7_settle_128 : decode cX7_settle 128 = .ok (.getfield 19, 3) := by decide +kernel
theorem dX7_settle_131 : decode cX7_settle 131 = .ok (.aload 4, 2) := by decide +kernel
theorem dX7_settle_133 : decode cX7_settle 133 = .ok (.getfield 146, 3) := by decide +kernel
theorem dX7_settle_136 : decode cX7_settle 136 = .ok (.invokevirtual 182, 3) := by decide +kernel
theorem dX7_settle_139 : decode cX7_settle 139 = .ok (.putfield 185, 3) := by decide +kernel
theorem dX7_settle_142 : decode cX7_settle 142 = .ok (.aload 8, 2) := by decide +kernel
theorem dX7_settle_144 : decode cX7_settle 144 = .ok (.aload_n 0, 1) := by decide +kernel
theorem dX7_settle_145 : decode cX7_settle 145 = .ok (.getfield 63, 3) := by decide +kernel
theorem dX7_settle_148 : decode cX7_settle 148 = .ok (.aload_n 0, 1) := by decide +kernel
theorem dX7_settle_149 : decode cX7_settle 149 = .ok (.getfield 19, 3) := by decide +kernel
theorem dX7_settle_152 : decode cX7_settle 152 = .ok (.invokevirtual 188, 3) := by decide +kernel
theorem dX7_settle_155 : decode cX7_settle 155 = .ok (.iadd, 1) := by decide +kernel
theorem dX7_settle_156 : decode cX7_settle 156 = .ok (.putfield 191, 3) := by decide +kernel
theorem dX7_settle_159 : decode cX7_settle 159 = .ok (.aload_n 0, 1) := by decide +kernel
theorem dX7_settle_160 : decode cX7_settle 160 = .ok (.getfield 38, 3) := by decide +kernel
theorem dX7_settle_163 : decode cX7_settle 163 = .ok (.aload 8, 2) := by decide +kernel
theorem dX7_settle_165 : decode cX7_settle 165 = .ok (.invokevirtual 194, 3) := by decide +kernel
theorem dX7_settle_168 : decode cX7_settle 168 = .ok (.iconst 0, 1) := by decide +kernel
theorem dX7_settle_169 : decode cX7_settle 169 = .ok (.ireturn, 1) := by decide +kernel
theorem dX7_season_0 : decode cX7_season 0 = .ok (.aload_n 0, 1) := by decide +kernel
theorem dX7_season_1 : decode cX7_season 1 = .ok (.getfield 63, 3) := by decide +kernel
theorem dX7_season_4 : decode cX7_season 4 = .ok (.sipush 1000, 3) := by decide +kernel
theorem dX7_season_7 : decode cX7_season 7 = .ok (.if_icmp .lt 5, 3) := by decide +kernel
theorem dX7_season_10 : decode cX7_season 10 = .ok (.iconst (-1), 1) := by decide +kernel
theorem dX7_season_11 : decode cX7_season 11 = .ok (.ireturn, 1) := by decide +kernel
theorem dX7_season_12 : decode cX7_season 12 = .ok (.aload_n 0, 1) := by decide +kernel
theorem dX7_season_13 : decode cX7_season 13 = .ok (.dup, 1) := by decide +kernel
theorem dX7_season_14 : decode cX7_season 14 = .ok (.getfield 63, 3) := by decide +kernel
theorem dX7_season_17 : decode cX7_season 17 = .ok (.iconst 1, 1) := by decide +kernel
theorem dX7_season_18 : decode cX7_season 18 = .ok (.iadd, 1) := by decide +kernel
theorem dX7_season_19 : decode cX7_season 19 = .ok (.putfield 63, 3) := by decide +kernel
theorem dX7_season_22 : decode cX7_season 22 = .ok (.iconst 0, 1) := by decide +kernel
theorem dX7_season_23 : decode cX7_season 23 = .ok (.istore_n 1, 1) := by decide +kernel
theorem dX7_season_24 : decode cX7_season 24 = .ok (.iload_n 1, 1) := by decide +kernel
theorem dX7_season_25 : decode cX7_season 25 = .ok (.aload_n 0, 1) := by decide +kernel
theorem dX7_season_26 : decode cX7_season 26 = .ok (.getfield 60, 3) := by decide +kernel
theorem dX7_season_29 : decode cX7_season 29 = .ok (.if_icmp .ge 74, 3) := by decide +kernel
theorem dX7_season_32 : decode cX7_season 32 = .ok (.aload_n 0, 1) := by decide +kernel
theorem dX7_season_33 : decode cX7_season 33 = .ok (.getfield 31, 3) := by decide +kernel
theorem dX7_season_36 : decode cX7_season 36 = .ok (.iload_n 1, 1) := by decide +kernel
theorem dX7_season_37 : decode cX7_season 37 = .ok (.aaload, 1) := by decide +kernel
theorem dX7_season_38 : decode cX7_season 38 = .ok (.astore_n 2, 1) := by decide +kernel
theorem dX7_season_39 : decode cX7_season 39 = .ok (.aload_n 0, 1) := by decide +kernel
theorem dX7_season_40 : decode cX7_season 40 = .ok (.aload_n 2, 1) := by decide +kernel
theorem dX7_season_41 : decode cX7_season 41 = .ok (.getfield 197, 3) := by decide +kernel
theorem dX7_season_44 : decode cX7_season 44 = .ok (.invokevirtual 106, 3) := by decide +kernel
theorem dX7_season_47 : decode cX7_season 47 = .ok (.astore_n 3, 1) := by decide +kernel
theorem dX7_season_48 : decode cX7_season 48 = .ok (.aload_n 3, 1) := by decide +kernel
theorem dX7_season_49 : decode cX7_season 49 = .ok (.ifnull 48, 3) := by decide +kernel
theorem dX7_season_52 : decode cX7_season 52 = .ok (.aload_n 2, 1) := by decide +kernel
theorem dX7_season_53 : decode cX7_season 53 = .ok (.getfield 200, 3) := by decide +kernel
theorem dX7_season_56 : decode cX7_season 56 = .ok (.ifCond .ne 41, 3) := by decide +kernel
theorem dX7_season_59 : decode cX7_season 59 = .ok (.aload_n 0, 1) := by decide +kernel
theorem dX7_season_60 : decode cX7_season 60 = .ok (.getfield 63, 3) := by decide +kernel
theorem dX7_season_63 : decode cX7_season 63 = .ok (.aload_n 2, 1) := by decide +kernel
theorem dX7_season_64 : decode cX7_season 64 = .ok (.getfield 203, 3) := by decide +kernel
theorem dX7_season_67 : decode cX7_season 67 = .ok (.isub, 1) := by decide +kernel
theorem dX7_season_68 : decode cX7_season 68 = .ok (.aload_n 0, 1) := by decide +kernel
theorem dX7_season_69 : decode cX7_season 69 = .ok (.getfield 19, 3) := by decide +kernel
theorem dX7_season_72 : decode cX7_season 72 = .ok (.invokevirtual 206, 3) := by decide +kernel
theorem dX7_season_75 : decode cX7_season 75 = .ok (.if_icmp .le 22, 3) := by decide +kernel
theorem dX7_season_78 : decode cX7_season 78 = .ok (.aload_n 3, 1) := by decide +kernel
theorem dX7_season_79 : decode cX7_season 79 = .ok (.dup, 1) := by decide +kernel
theorem dX7_season_80 : decode cX7_season 80 = .ok (.getfield 143, 3) := by decide +kernel
theorem dX7_season_83 : decode cX7_season 83 = .ok (.aload_n 2, 1) := by decide +kernel
theorem dX7_season_84 : decode cX7_season 84 = .ok (.getfield 146, 3) := by decide +kernel
theorem dX7_season_87 : decode cX7_season 87 = .ok (.bipush 9, 2) := by decide +kernel
theorem dX7_season_89 : decode cX7_season 89 = .ok (.iadd, 1) := by decide +kernel
theorem dX7_season_90 : decode cX7_season 90 = .ok (.bipush 10, 2) := by decide +kernel
theorem dX7_season_92 : decode cX7_season 92 = .ok (.idiv, 1) := by decide +kernel
theorem dX7_season_93 : decode cX7_season 93 = .ok (.isub, 1) := by decide +kernel
theorem dX7_season_94 : decode cX7_season 94 = .ok (.putfield 143, 3) := by decide +kernel
theorem dX7_season_97 : decode cX7_season 97 = .ok (.iinc 1 1, 3) := by decide +kernel
theorem dX7_season_100 : decode cX7_season 100 = .ok (.goto (-76), 3) := by decide +kernel
theorem dX7_season_103 : decode cX7_season 103 = .ok (.aload_n 0, 1) := by decide +kernel
theorem dX7_season_104 : decode cX7_season 104 = .ok (.getfield 63, 3) := by decide +kernel
theorem dX7_season_107 : decode cX7_season 107 = .ok (.ireturn, 1) := by decide +kernel
theorem dX7_dies_0 : decode cX7_dies 0 = .ok (.aload_n 0, 1) := by decide +kernel
theorem dX7_dies_1 : decode cX7_dies 1 = .ok (.iload_n 1, 1) := by decide +kernel
theorem dX7_dies_2 : decode cX7_dies 2 = .ok (.invokevirtual 83, 3) := by decide +kernel
theorem dX7_dies_5 : decode cX7_dies 5 = .ok (.astore_n 3, 1) := by decide +kernel
theorem dX7_dies_6 : decode cX7_dies 6 = .ok (.aload_n 0, 1) := by decide +kernel
theorem dX7_dies_7 : decode cX7_dies 7 = .ok (.iload_n 2, 1) := by decide +kernel
theorem dX7_dies_8 : decode cX7_dies 8 = .ok (.invokevirtual 83, 3) := by decide +kernel
theorem dX7_dies_11 : decode cX7_dies 11 = .ok (.astore 4, 2) := by decide +kernel
theorem dX7_dies_13 : decode cX7_dies 13 = .ok (.aload_n 3, 1) := by decide +kernel
theorem dX7_dies_14 : decode cX7_dies 14 = .ok (.ifnull 25, 3) := by decide +kernel
theorem dX7_dies_17 : decode cX7_dies 17 = .ok (.aload 4, 2) := by decide +kernel
theorem dX7_dies_19 : decode cX7_dies 19 = .ok (.ifnull 20, 3) := by decide +kernel
theorem dX7_dies_22 : decode cX7_dies 22 = .ok (.iload_n 1, 1) := by decide +kernel
theorem dX7_dies_23 : decode cX7_dies 23 = .ok (.iload_n 2, 1) := by decide +kernel
theorem dX7_dies_24 : decode cX7_dies 24 = .ok (.if_icmp .eq 15, 3) := by decide +kernel
theorem dX7_dies_27 : decode cX7_dies 27 = .ok (.aload_n 3, 1) := by decide +kernel
theorem dX7_dies_28 : decode cX7_dies 28 = .ok (.getfield 90, 3) := by decide +kernel
theorem dX7_dies_31 : decode cX7_dies 31 = .ok (.aload 4, 2) := by decide +kernel
theorem dX7_dies_33 : decode cX7_dies 33 = .ok (.getfield 90, 3) := by decide +kernel
theorem dX7_dies_36 : decode cX7_dies 36 = .ok (.if_icmp .eq 5, 3) := by decide +kernel
theorem dX7_dies_39 : decode cX7_dies 39 = .ok (.iconst 0, 1) := by decide +kernel
theorem dX7_dies_40 : decode cX7_dies 40 = .ok (.ireturn, 1) := by decide +kernel
theorem dX7_dies_41 : decode cX7_dies 41 = .ok (.aload_n 3, 1) := by decide +kernel
theorem dX7_dies_42 : decode cX7_dies 42 = .ok (.iconst 0, 1) := by decide +kernel
theorem dX7_dies_43 : decode cX7_dies 43 = .ok (.putfield 109, 3) := by decide +kernel
theorem dX7_dies_46 : decode cX7_dies 46 = .ok (.aload_n 0, 1) := by decide +kernel
theorem dX7_dies_47 : decode cX7_dies 47 = .ok (.iload_n 1, 1) := by decide +kernel
theorem dX7_dies_48 : decode cX7_dies 48 = .ok (.iload_n 2, 1) := by decide +kernel
theorem dX7_dies_49 : decode cX7_dies 49 = .ok (.invokevirtual 209, 3) := by decide +kernel
theorem dX7_dies_52 : decode cX7_dies 52 = .ok (.aload_n 0, 1) := by decide +kernel
theorem dX7_dies_53 : decode cX7_dies 53 = .ok (.getfield 38, 3) := by decide +kernel
theorem dX7_dies_56 : decode cX7_dies 56 = .ok (.iload_n 1, 1) := by decide +kernel
theorem dX7_dies_57 : decode cX7_dies 57 = .ok (.iload_n 2, 1) := by decide +kernel
theorem dX7_dies_58 : decode cX7_dies 58 = .ok (.invokevirtual 212, 3) := by decide +kernel
theorem dX7_dies_61 : decode cX7_dies 61 = .ok (.aload_n 0, 1) := by decide +kernel
theorem dX7_dies_62 : decode cX7_dies 62 = .ok (.iload_n 1, 1) := by decide +kernel
theorem dX7_dies_63 : decode cX7_dies 63 = .ok (.iload_n 2, 1) := by decide +kernel
theorem dX7_dies_64 : decode cX7_dies 64 = .ok (.invokevirtual 215, 3) := by decide +kernel
theorem dX7_dies_67 : decode cX7_dies 67 = .ok (.iconst 1, 1) := by decide +kernel
theorem dX7_dies_68 : decode cX7_dies 68 = .ok (.ireturn, 1) := by decide +kernel
theorem dX7_passTreasures_0 : decode cX7_passTreasures 0 = .ok (.iconst 0, 1) := by decide +kernel
theorem dX7_passTreasures_1 : decode cX7_passTreasures 1 = .ok (.istore_n 3, 1) := by decide +kernel
theorem dX7_passTreasures_2 : decode cX7_passTreasures 2 = .ok (.iload_n 3, 1) := by decide +kernel
theorem dX7_passTreasures_3 : decode cX7_passTreasures 3 = .ok (.aload_n 0, 1) := by decide +kernel
theorem dX7_passTreasures_4 : decode cX7_passTreasures 4 = .ok (.getfield 60, 3) := by decide +kernel
theorem dX7_passTreasures_7 : decode cX7_passTreasures 7 = .ok (.if_icmp .ge 36, 3) := by decide +kernel
theorem dX7_passTreasures_10 : decode cX7_passTreasures 10 = .ok (.aload_n 0, 1) := by decide +kernel
theorem dX7_passTreasures_11 : decode cX7_passTreasures 11 = .ok (.getfield 31, 3) := by decide +kernel
theorem dX7_passTreasures_14 : decode cX7_passTreasures 14 = .ok (.iload_n 3, 1) := by decide +kernel
theorem dX7_passTreasures_15 : decode cX7_passTreasures 15 = .ok (.aaload, 1) := by decide +kernel
theorem dX7_passTreasures_16 : decode cX7_passTreasures 16 = .ok (.iload_n 1, 1) := by decide +kernel
theorem dX7_passTreasures_17 : decode cX7_passTreasures 17 = .ok (.invokevirtual 126, 3) := by decide +kernel
theorem dX7_passTreasures_20 : decode cX7_passTreasures 20 = .ok (.ifCond .eq 17, 3) := by decide +kernel
theorem dX7_passTreasures_23 : decode cX7_passTreasures 23 = .ok (.aload_n 0, 1) := by decide +kernel
theorem dX7_passTreasures_24 : decode cX7_passTreasures 24 = .ok (.getfield 31, 3) := by decide +kernel
theorem dX7_passTreasures_27 : decode cX7_passTreasures 27 = .ok (.iload_n 3, 1) := by decide +kernel
theorem dX7_passTreasures_28 : decode cX7_passTreasures 28 = .ok (.aaload, 1) := by decide +kernel
theorem dX7_passTreasures_29 : decode cX7_passTreasures 29 = .ok (.iload_n 2, 1) := by decide +kernel
theorem dX7_passTreasures_30 : decode cX7_passTreasures 30 = .ok (.aload_n 0, 1) := by decide +kernel
theorem dX7_passTreasures_31 : decode cX7_passTreasures 31 = .ok (.getfield 63, 3) := by decide +kernel
theorem dX7_passTreasures_34 : decode cX7_passTreasures 34 = .ok (.invokevirtual 103, 3) := by decide +kernel
theorem dX7_passTreasures_37 : decode cX7_passTreasures 37 = .ok (.iinc 3 1, 3) := by decide +kernel
theorem dX7_passTreasures_40 : decode cX7_passTreasures 40 = .ok (.goto (-38), 3) := by decide +kernel
theorem dX7_passTreasures_43 : decode cX7_passTreasures 43 = .ok (.return_, 1) := by decide +kernel
theorem dX7_passPartners_0 : decode cX7_passPartners 0 = .ok (.iconst 0, 1) := by decide +kernel
theorem dX7_passPartners_1 : decode cX7_passPartners 1 = .ok (.istore_n 3, 1) := by decide +kernel
theorem dX7_passPartners_2 : decode cX7_passPartners 2 = .ok (.iload_n 3, 1) := by decide +kernel
theorem dX7_passPartners_3 : decode cX7_passPartners 3 = .ok (.aload_n 0, 1) := by decide +kernel
theorem dX7_passPartners_4 : decode cX7_passPartners 4 = .ok (.getfield 57, 3) := by decide +kernel
theorem dX7_passPartners_7 : decode cX7_passPartners 7 = .ok (.if_icmp .ge 62, 3) := by decide +kernel
theorem dX7_passPartners_10 : decode cX7_passPartners 10 = .ok (.aload_n 0, 1) := by decide +kernel
theorem dX7_passPartners_11 : decode cX7_passPartners 11 = .ok (.getfield 25, 3) := by decide +kernel
theorem dX7_passPartners_14 : decode cX7_passPartners 14 = .ok (.iload_n 3, 1) := by decide +kernel
theorem dX7_passPartners_15 : decode cX7_passPartners 15 = .ok (.aaload, 1) := by decide +kernel
theorem dX7_passPartners_16 : decode cX7_passPartners 16 = .ok (.iload_n 1, 1) := by decide +kernel
theorem dX7_passPartners_17 : decode cX7_passPartners 17 = .ok (.invokevirtual 87, 3) := by decide +kernel
theorem dX7_passPartners_20 : decode cX7_passPartners 20 = .ok (.ifCond .eq 43, 3) := by decide +kernel
theorem dX7_passPartners_23 : decode cX7_passPartners 23 = .ok (.aload_n 0, 1) := by decide +kernel
theorem dX7_passPartners_24 : decode cX7_passPartners 24 = .ok (.getfield 25, 3) := by decide +kernel
theorem dX7_passPartners_27 : decode cX7_passPartners 27 = .ok (.iload_n 3, 1) := by decide +kernel
theorem dX7_passPartners_28 : decode cX7_passPartners 28 = .ok (.aaload, 1) := by decide +kernel
theorem dX7_passPartners_29 : decode cX7_passPartners 29 = .ok (.iload_n 1, 1) := by decide +kernel
theorem dX7_passPartners_30 : decode cX7_passPartners 30 = .ok (.invokevirtual 218, 3) := by decide +kernel
theorem dX7_passPartners_33 : decode cX7_passPartners 33 = .ok (.aload_n 0, 1) := by decide +kernel
theorem dX7_passPartners_34 : decode cX7_passPartners 34 = .ok (.getfield 25, 3) := by decide +kernel
theorem dX7_passPartners_37 : decode cX7_passPartners 37 = .ok (.iload_n 3, 1) := by decide +kernel
theorem dX7_passPartners_38 : decode cX7_passPartners 38 = .ok (.aaload, 1) := by decide +kernel
theorem dX7_passPartners_39 : decode cX7_passPartners 39 = .ok (.iload_n 2, 1) := by decide +kernel
theorem dX7_passPartners_40 : decode cX7_passPartners 40 = .ok (.invokevirtual 97, 3) := by decide +kernel
theorem dX7_passPartners_43 : decode cX7_passPartners 43 = .ok (.aload_n 0, 1) := by decide +kernel
theorem dX7_passPartners_44 : decode cX7_passPartners 44 = .ok (.getfield 25, 3) := by decide +kernel
theorem dX7_passPartners_47 : decode cX7_passPartners 47 = .ok (.iload_n 1, 1) := by decide +kernel
theorem dX7_passPartners_48 : decode cX7_passPartners 48 = .ok (.aaload, 1) := by decide +kernel
theorem dX7_passPartners_49 : decode cX7_passPartners 49 = .ok (.iload_n 3, 1) := by decide +kernel
theorem dX7_passPartners_50 : decode cX7_passPartners 50 = .ok (.invokevirtual 218, 3) := by decide +kernel
theorem dX7_passPartners_53 : decode cX7_passPartners 53 = .ok (.aload_n 0, 1) := by decide +kernel
theorem dX7_passPartners_54 : decode cX7_passPartners 54 = .ok (.getfield 25, 3) := by decide +kernel
theorem dX7_passPartners_57 : decode cX7_passPartners 57 = .ok (.iload_n 2, 1) := by decide +kernel
theorem dX7_passPartners_58 : decode cX7_passPartners 58 = .ok (.aaload, 1) := by decide +kernel
theorem dX7_passPartners_59 : decode cX7_passPartners 59 = .ok (.iload_n 3, 1) := by decide +kernel
theorem dX7_passPartners_60 : decode cX7_passPartners 60 = .ok (.invokevirtual 97, 3) := by decide +kernel
theorem dX7_passPartners_63 : decode cX7_passPartners 63 = .ok (.iinc 3 1, 3) := by decide +kernel
theorem dX7_passPartners_66 : decode cX7_passPartners 66 = .ok (.goto (-64), 3) := by decide +kernel
theorem dX7_passPartners_69 : decode cX7_passPartners 69 = .ok (.return_, 1) := by decide +kernel
theorem dX7_lost_0 : decode cX7_lost 0 = .ok (.aload_n 0, 1) := by decide +kernel
theorem dX7_lost_1 : decode cX7_lost 1 = .ok (.iload_n 1, 1) := by decide +kernel
theorem dX7_lost_2 : decode cX7_lost 2 = .ok (.invokevirtual 122, 3) := by decide +kernel
theorem dX7_lost_5 : decode cX7_lost 5 = .ok (.astore_n 2, 1) := by decide +kernel
theorem dX7_lost_6 : decode cX7_lost 6 = .ok (.aload_n 2, 1) := by decide +kernel
theorem dX7_lost_7 : decode cX7_lost 7 = .ok (.ifnull 10, 3) := by decide +kernel
theorem dX7_lost_10 : decode cX7_lost 10 = .ok (.aload_n 2, 1) := by decide +kernel
theorem dX7_lost_11 : decode cX7_lost 11 = .ok (.getfield 200, 3) := by decide +kernel
theorem dX7_lost_14 : decode cX7_lost 14 = .ok (.ifCond .eq 5, 3) := by decide +kernel
theorem dX7_lost_17 : decode cX7_lost 17 = .ok (.iconst 0, 1) := by decide +kernel
theorem dX7_lost_18 : decode cX7_lost 18 = .ok (.ireturn, 1) := by decide +kernel
theorem dX7_lost_19 : decode cX7_lost 19 = .ok (.aload_n 2, 1) := by decide +kernel
theorem dX7_lost_20 : decode cX7_lost 20 = .ok (.iconst 1, 1) := by decide +kernel
theorem dX7_lost_21 : decode cX7_lost 21 = .ok (.putfield 200, 3) := by decide +kernel
theorem dX7_lost_24 : decode cX7_lost 24 = .ok (.aload_n 2, 1) := by decide +kernel
theorem dX7_lost_25 : decode cX7_lost 25 = .ok (.aload_n 0, 1) := by decide +kernel
theorem dX7_lost_26 : decode cX7_lost 26 = .ok (.getfield 63, 3) := by decide +kernel
theorem dX7_lost_29 : decode cX7_lost 29 = .ok (.putfield 221, 3) := by decide +kernel
theorem dX7_lost_32 : decode cX7_lost 32 = .ok (.iconst 1, 1) := by decide +kernel
theorem dX7_lost_33 : decode cX7_lost 33 = .ok (.ireturn, 1) := by decide +kernel
theorem dX7_known_0 : decode cX7_known 0 = .ok (.aload_n 0, 1) := by decide +kernel
theorem dX7_known_1 : decode cX7_known 1 = .ok (.iload_n 2, 1) := by decide +kernel
theorem dX7_known_2 : decode cX7_known 2 = .ok (.invokevirtual 122, 3) := by decide +kernel
theorem dX7_known_5 : decode cX7_known 5 = .ok (.astore_n 3, 1) := by decide +kernel
theorem dX7_known_6 : decode cX7_known 6 = .ok (.aload_n 3, 1) := by decide +kernel
theorem dX7_known_7 : decode cX7_known 7 = .ok (.ifnull 11, 3) := by decide +kernel
theorem dX7_known_10 : decode cX7_known 10 = .ok (.aload_n 0, 1) := by decide +kernel
theorem dX7_known_11 : decode cX7_known 11 = .ok (.iload_n 1, 1) := by decide +kernel
theorem dX7_known_12 : decode cX7_known 12 = .ok (.invokevirtual 77, 3) := by decide +kernel
theorem dX7_known_15 : decode cX7_known 15 = .ok (.ifCond .ne 5, 3) := by decide +kernel
theorem dX7_known_18 : decode cX7_known 18 = .ok (.iconst (-1), 1) := by decide +kernel
theorem dX7_known_19 : decode cX7_known 19 = .ok (.ireturn, 1) := by decide +kernel
theorem dX7_known_20 : decode cX7_known 20 = .ok (.aload_n 3, 1) := by decide +kernel
theorem dX7_known_21 : decode cX7_known 21 = .ok (.getfield 200, 3) := by decide +kernel
theorem dX7_known_24 : decode cX7_known 24 = .ok (.ifCond .eq 22, 3) := by decide +kernel
theorem dX7_known_27 : decode cX7_known 27 = .ok (.aload_n 0, 1) := by decide +kernel
theorem dX7_known_28 : decode cX7_known 28 = .ok (.aload_n 3, 1) := by decide +kernel
theorem dX7_known_29 : decode cX7_known 29 = .ok (.getfield 221, 3) := by decide +kernel
theorem dX7_known_32 : decode cX7_known 32 = .ok (.aload_n 3, 1) := by decide +kernel
theorem dX7_known_33 : decode cX7_known 33 = .ok (.getfield 197, 3) := by decide +kernel
theorem dX7_known_36 : decode cX7_known 36 = .ok (.iload_n 1, 1) := by decide +kernel
theorem dX7_known_37 : decode cX7_known 37 = .ok (.invokevirtual 224, 3) := by decide +kernel
theorem dX7_known_40 : decode cX7_known 40 = .ok (.ifCond .eq 6, 3) := by decide +kernel
theorem dX7_known_43 : decode cX7_known 43 = .ok (.bipush (-2), 2) := by decide +kernel
theorem dX7_known_45 : decode cX7_known 45 = .ok (.ireturn, 1) := by decide +kernel
theorem dX7_known_46 : decode cX7_known 46 = .ok (.aload_n 3, 1) := by decide +kernel
theorem dX7_known_47 : decode cX7_known 47 = .ok (.getfield 227, 3) := by decide +kernel
theorem dX7_known_50 : decode cX7_known 50 = .ok (.iconst 1, 1) := by decide +kernel
theorem dX7_known_51 : decode cX7_known 51 = .ok (.isub, 1) := by decide +kernel
theorem dX7_known_52 : decode cX7_known 52 = .ok (.istore 4, 2) := by decide +kernel
theorem dX7_known_54 : decode cX7_known 54 = .ok (.iload 4, 2) := by decide +kernel
theorem dX7_known_56 : decode cX7_known 56 = .ok (.ifCond .lt 39, 3) := by decide +kernel
theorem dX7_known_59 : decode cX7_known 59 = .ok (.aload_n 0, 1) := by decide +kernel
theorem dX7_known_60 : decode cX7_known 60 = .ok (.aload_n 3, 1) := by decide +kernel
theorem dX7_known_61 : decode cX7_known 61 = .ok (.getfield 230, 3) := by decide +kernel
theorem dX7_known_64 : decode cX7_known 64 = .ok (.iload 4, 2) := by decide +kernel
theorem dX7_known_66 : decode cX7_known 66 = .ok (.iaload, 1) := by decide +kernel
theorem dX7_known_67 : decode cX7_known 67 = .ok (.aload_n 3, 1) := by decide +kernel
theorem dX7_known_68 : decode cX7_known 68 = .ok (.getfield 233, 3) := by decide +kernel
theorem dX7_known_71 : decode cX7_known 71 = .ok (.iload 4, 2) := by decide +kernel
theorem dX7_known_73 : decode cX7_known 73 = .ok (.iaload, 1) := by decide +kernel
theorem dX7_known_74 : decode cX7_known 74 = .ok (.iload_n 1, 1) := by decide +kernel
theorem dX7_known_75 : decode cX7_known 75 = .ok (.invokevirtual 224, 3) := by decide +kernel
theorem dX7_known_78 : decode cX7_known 78 = .ok (.ifCond .eq 11, 3) := by decide +kernel
theorem dX7_known_81 : decode cX7_known 81 = .ok (.aload_n 3, 1) := by decide +kernel
theorem dX7_known_82 : decode cX7_known 82 = .ok (.getfield 233, 3) := by decide +kernel
theorem dX7_known_85 : decode cX7_known 85 = .ok (.iload 4, 2) := by decide +kernel
theorem dX7_known_87 : decode cX7_known 87 = .ok (.iaload, 1) := by decide +kernel
theorem dX7_known_88 : decode cX7_known 88 = .ok (.ireturn, 1) := by decide +kernel
theorem dX7_known_89 : decode cX7_known 89 = .ok (.iinc 4 (-1), 3) := by decide +kernel
theorem dX7_known_92 : decode cX7_known 92 = .ok (.goto (-38), 3) := by decide +kernel
theorem dX7_known_95 : decode cX7_known 95 = .ok (.iconst (-1), 1) := by decide +kernel
theorem dX7_known_96 : decode cX7_known 96 = .ok (.ireturn, 1) := by decide +kernel
theorem dX7_hasCome_0 : decode cX7_hasCome 0 = .ok (.aload_n 0, 1) := by decide +kernel
theorem dX7_hasCome_1 : decode cX7_hasCome 1 = .ok (.iload_n 2, 1) := by decide +kernel
theorem dX7_hasCome_2 : decode cX7_hasCome 2 = .ok (.invokevirtual 106, 3) := by decide +kernel
theorem dX7_hasCome_5 : decode cX7_hasCome 5 = .ok (.astore 4, 2) := by decide +kernel
theorem dX7_hasCome_7 : decode cX7_hasCome 7 = .ok (.aload 4, 2) := by decide +kernel
theorem dX7_hasCome_9 : decode cX7_hasCome 9 = .ok (.ifnull 26, 3) := by decide +kernel
theorem dX7_hasCome_12 : decode cX7_hasCome 12 = .ok (.iload_n 1, 1) := by decide +kernel
theorem dX7_hasCome_13 : decode cX7_hasCome 13 = .ok (.aload_n 0, 1) := by decide +kernel
theorem dX7_hasCome_14 : decode cX7_hasCome 14 = .ok (.aload 4, 2) := by decide +kernel
theorem dX7_hasCome_16 : decode cX7_hasCome 16 = .ok (.getfield 90, 3) := by decide +kernel
theorem dX7_hasCome_19 : decode cX7_hasCome 19 = .ok (.iload_n 3, 1) := by decide +kernel
theorem dX7_hasCome_20 : decode cX7_hasCome 20 = .ok (.invokevirtual 93, 3) := by decide +kernel
theorem dX7_hasCome_23 : decode cX7_hasCome 23 = .ok (.iadd, 1) := by decide +kernel
theorem dX7_hasCome_24 : decode cX7_hasCome 24 = .ok (.aload_n 0, 1) := by decide +kernel
theorem dX7_hasCome_25 : decode cX7_hasCome 25 = .ok (.getfield 63, 3) := by decide +kernel
theorem dX7_hasCome_28 : decode cX7_hasCome 28 = .ok (.if_icmp .gt 7, 3) := by decide +kernel
theorem dX7_hasCome_31 : decode cX7_hasCome 31 = .ok (.iconst 1, 1) := by decide +kernel
theorem dX7_hasCome_32 : decode cX7_hasCome 32 = .ok (.goto 4, 3) := by decide +kernel
theorem dX7_hasCome_35 : decode cX7_hasCome 35 = .ok (.iconst 0, 1) := by decide +kernel
theorem dX7_hasCome_36 : decode cX7_hasCome 36 = .ok (.ireturn, 1) := by decide +kernel
theorem dX7_way_0 : decode cX7_way 0 = .ok (.aload_n 0, 1) := by decide +kernel
theorem dX7_way_1 : decode cX7_way 1 = .ok (.iload_n 1, 1) := by decide +kernel
theorem dX7_way_2 : decode cX7_way 2 = .ok (.invokevirtual 122, 3) := by decide +kernel
theorem dX7_way_5 : decode cX7_way 5 = .ok (.astore_n 3, 1) := by decide +kernel
theorem dX7_way_6 : decode cX7_way 6 = .ok (.aload_n 3, 1) := by decide +kernel
theorem dX7_way_7 : decode cX7_way 7 = .ok (.ifnull 15, 3) := by decide +kernel
theorem dX7_way_10 : decode cX7_way 10 = .ok (.iload_n 2, 1) := by decide +kernel
theorem dX7_way_11 : decode cX7_way 11 = .ok (.ifCond .lt 11, 3) := by decide +kernel
theorem dX7_way_14 : decode cX7_way 14 = .ok (.iload_n 2, 1) := by decide +kernel
theorem dX7_way_15 : decode cX7_way 15 = .ok (.aload_n 3, 1) := by decide +kernel
theorem dX7_way_16 : decode cX7_way 16 = .ok (.invokevirtual 236, 3) := by decide +kernel
theorem dX7_way_19 : decode cX7_way 19 = .ok (.if_icmp .lt 5, 3) := by decide +kernel
theorem dX7_way_22 : decode cX7_way 22 = .ok (.iconst (-1), 1) := by decide +kernel
theorem dX7_way_23 : decode cX7_way 23 = .ok (.ireturn, 1) := by decide +kernel
theorem dX7_way_24 : decode cX7_way 24 = .ok (.aload_n 3, 1) := by decide +kernel
theorem dX7_way_25 : decode cX7_way 25 = .ok (.getfield 233, 3) := by decide +kernel
theorem dX7_way_28 : decode cX7_way 28 = .ok (.iload_n 2, 1) := by decide +kernel
theorem dX7_way_29 : decode cX7_way 29 = .ok (.iaload, 1) := by decide +kernel
theorem dX7_way_30 : decode cX7_way 30 = .ok (.ireturn, 1) := by decide +kernel
theorem dX7_closings_0 : decode cX7_closings 0 = .ok (.aload_n 0, 1) := by decide +kernel
theorem dX7_closings_1 : decode cX7_closings 1 = .ok (.iload_n 1, 1) := by decide +kernel
theorem dX7_closings_2 : decode cX7_closings 2 = .ok (.invokevirtual 83, 3) := by decide +kernel
theorem dX7_closings_5 : decode cX7_closings 5 = .ok (.ifnonnull 5, 3) := by decide +kernel
theorem dX7_closings_8 : decode cX7_closings 8 = .ok (.iconst (-1), 1) := by decide +kernel
theorem dX7_closings_9 : decode cX7_closings 9 = .ok (.ireturn, 1) := by decide +kernel
theorem dX7_closings_10 : decode cX7_closings 10 = .ok (.aload_n 0, 1) := by decide +kernel
theorem dX7_closings_11 : decode cX7_closings 11 = .ok (.getfield 45, 3) := by decide +kernel
theorem dX7_closings_14 : decode cX7_closings 14 = .ok (.invokevirtual 239, 3) := by decide +kernel
theorem dX7_closings_17 : decode cX7_closings 17 = .ok (.iconst 0, 1) := by decide +kernel
theorem dX7_closings_18 : decode cX7_closings 18 = .ok (.istore_n 2, 1) := by decide +kernel
theorem dX7_closings_19 : decode cX7_closings 19 = .ok (.iload_n 2, 1) := by decide +kernel
theorem dX7_closings_20 : decode cX7_closings 20 = .ok (.aload_n 0, 1) := by decide +kernel
theorem dX7_closings_21 : decode cX7_closings 21 = .ok (.getfield 60, 3) := by decide +kernel
theorem dX7_closings_24 : decode cX7_closings 24 = .ok (.if_icmp .ge 44, 3) := by decide +kernel
theorem dX7_closings_27 : decode cX7_closings 27 = .ok (.aload_n 0, 1) := by decide +kernel
theorem dX7_closings_28 : decode cX7_closings 28 = .ok (.getfield 31, 3) := by decide +kernel
theorem dX7_closings_31 : decode cX7_closings 31 = .ok (.iload_n 2, 1) := by decide +kernel
theorem dX7_closings_32 : decode cX7_closings 32 = .ok (.aaload, 1) := by decide +kernel
theorem dX7_closings_33 : decode cX7_closings 33 = .ok (.astore_n 3, 1) := by decide +kernel
theorem dX7_closings_34 : decode cX7_closings 34 = .ok (.aload_n 3, 1) := by decide +kernel
theorem dX7_closings_35 : decode cX7_closings 35 = .ok (.iload_n 1, 1) := by decide +kernel
theorem dX7_closings_36 : decode cX7_closings 36 = .ok (.invokevirtual 126, 3) := by decide +kernel
theorem dX7_closings_39 : decode cX7_closings 39 = .ok (.ifCond .eq 23, 3) := by decide +kernel
theorem dX7_closings_42 : decode cX7_closings 42 = .ok (.aload_n 3, 1) := by decide +kernel
theorem dX7_closings_43 : decode cX7_closings 43 = .ok (.aload_n 0, 1) := by decide +kernel
theorem dX7_closings_44 : decode cX7_closings 44 = .ok (.getfield 63, 3) := by decide +kernel
theorem dX7_closings_47 : decode cX7_closings 47 = .ok (.invokevirtual 129, 3) := by decide +kernel
theorem dX7_closings_50 : decode cX7_closings 50 = .ok (.ifCond .eq 12, 3) := by decide +kernel
theorem dX7_closings_53 : decode cX7_closings 53 = .ok (.aload_n 0, 1) := by decide +kernel
theorem dX7_closings_54 : decode cX7_closings 54 = .ok (.getfield 45, 3) := by decide +kernel
theorem dX7_closings_57 : decode cX7_closings 57 = .ok (.iload_n 2, 1) := by decide +kernel
theorem dX7_closings_58 : decode cX7_closings 58 = .ok (.aload_n 3, 1) := by decide +kernel
theorem dX7_closings_59 : decode cX7_closings 59 = .ok (.invokevirtual 242, 3) := by decide +kernel
theorem dX7_closings_62 : decode cX7_closings 62 = .ok (.iinc 2 1, 3) := by decide +kernel
theorem dX7_closings_65 : decode cX7_closings 65 = .ok (.goto (-46), 3) := by decide +kernel
theorem dX7_closings_68 : decode cX7_closings 68 = .ok (.iconst 0, 1) := by decide +kernel
theorem dX7_closings_69 : decode cX7_closings 69 = .ok (.istore_n 2, 1) := by decide +kernel
theorem dX7_closings_70 : decode cX7_closings 70 = .ok (.iload_n 2, 1) := by decide +kernel
theorem dX7_closings_71 : decode cX7_closings 71 = .ok (.aload_n 0, 1) := by decide +kernel
theorem dX7_closings_72 : decode cX7_closings 72 = .ok (.getfield 38, 3) := by decide +kernel
theorem dX7_closings_75 : decode cX7_closings 75 = .ok (.getfield 246, 3) := by decide +kernel
theorem dX7_closings_78 : decode cX7_closings 78 = .ok (.if_icmp .ge 42, 3) := by decide +kernel
theorem dX7_closings_81 : decode cX7_closings 81 = .ok (.aload_n 0, 1) := by decide +kernel
theorem dX7_closings_82 : decode cX7_closings 82 = .ok (.getfield 38, 3) := by decide +kernel
theorem dX7_closings_85 : decode cX7_closings 85 = .ok (.getfield 247, 3) := by decide +kernel
theorem dX7_closings_88 : decode cX7_closings 88 = .ok (.iload_n 2, 1) := by decide +kernel
theorem dX7_closings_89 : decode cX7_closings 89 = .ok (.aaload, 1) := by decide +kernel
theorem dX7_closings_90 : decode cX7_closings 90 = .ok (.astore_n 3, 1) := by decide +kernel
theorem dX7_closings_91 : decode cX7_closings 91 = .ok (.aload_n 3, 1) := by decide +kernel
theorem dX7_closings_92 : decode cX7_closings 92 = .ok (.invokevirtual 251, 3) := by decide +kernel
theorem dX7_closings_95 : decode cX7_closings 95 = .ok (.ifCond .eq 19, 3) := by decide +kernel
theorem dX7_closings_98 : decode cX7_closings 98 = .ok (.aload_n 3, 1) := by decide +kernel
theorem dX7_closings_99 : decode cX7_closings 99 = .ok (.getfield 254, 3) := by decide +kernel
theorem dX7_closings_102 : decode cX7_closings 102 = .ok (.iload_n 1, 1) := by decide +kernel
theorem dX7_closings_103 : decode cX7_closings 103 = .ok (.if_icmp .ne 11, 3) := by decide +kernel
theorem dX7_closings_106 : decode cX7_closings 106 = .ok (.aload_n 0, 1) := by decide +kernel
theorem dX7_closings_107 : decode cX7_closings 107 = .ok (.getfield 45, 3) := by decide +kernel
theorem dX7_closings_110 : decode cX7_closings 110 = .ok (.aload_n 3, 1) := by decide +kernel
theorem dX7_closings_111 : decode cX7_closings 111 = .ok (.invokevirtual 257, 3) := by decide +kernel
theorem dX7_closings_114 : decode cX7_closings 114 = .ok (.iinc 2 1, 3) := by decide +kernel
theorem dX7_closings_117 : decode cX7_closings 117 = .ok (.goto (-47), 3) := by decide +kernel
theorem dX7_closings_120 : decode cX7_closings 120 = .ok (.aload_n 0, 1) := by decide +kernel
theorem dX7_closings_121 : decode cX7_closings 121 = .ok (.getfield 45, 3) := by decide +kernel
theorem dX7_closings_124 : decode cX7_closings 124 = .ok (.invokevirtual 260, 3) := by decide +kernel
theorem dX7_closings_127 : decode cX7_closings 127 = .ok (.ireturn, 1) := by decide +kernel
theorem dX7_closing_0 : decode cX7_closing 0 = .ok (.iload_n 1, 1) := by decide +kernel
theorem dX7_closing_1 : decode cX7_closing 1 = .ok (.ifCond .lt 14, 3) := by decide +kernel
theorem dX7_closing_4 : decode cX7_closing 4 = .ok (.iload_n 1, 1) := by decide +kernel
theorem dX7_closing_5 : decode cX7_closing 5 = .ok (.aload_n 0, 1) := by decide +kernel
theorem dX7_closing_6 : decode cX7_closing 6 = .ok (.getfield 45, 3) := by decide +kernel
theorem dX7_closing_9 : decode cX7_closing 9 = .ok (.getfield 263, 3) := by decide +kernel
theorem dX7_closing_12 : decode cX7_closing 12 = .ok (.if_icmp .lt 5, 3) := by decide +kernel
theorem dX7_closing_15 : decode cX7_closing 15 = .ok (.iconst (-1), 1) := by decide +kernel
theorem dX7_closing_16 : decode cX7_closing 16 = .ok (.ireturn, 1) := by decide +kernel
theorem dX7_closing_17 : decode cX7_closing 17 = .ok (.aload_n 0, 1) := by decide +kernel
theorem dX7_closing_18 : decode cX7_closing 18 = .ok (.getfield 45, 3) := by decide +kernel
theorem dX7_closing_21 : decode cX7_closing 21 = .ok (.getfield 266, 3) := by decide +kernel
theorem dX7_closing_24 : decode cX7_closing 24 = .ok (.iload_n 1, 1) := by decide +kernel
theorem dX7_closing_25 : decode cX7_closing 25 = .ok (.iaload, 1) := by decide +kernel
theorem dX7_closing_26 : decode cX7_closing 26 = .ok (.ireturn, 1) := by decide +kernel
theorem dX7_soonest_0 : decode cX7_soonest 0 = .ok (.aload_n 0, 1) := by decide +kernel
theorem dX7_soonest_1 : decode cX7_soonest 1 = .ok (.iload_n 1, 1) := by decide +kernel
theorem dX7_soonest_2 : decode cX7_soonest 2 = .ok (.invokevirtual 122, 3) := by decide +kernel
theorem dX7_soonest_5 : decode cX7_soonest 5 = .ok (.astore_n 3, 1) := by decide +kernel
theorem dX7_soonest_6 : decode cX7_soonest 6 = .ok (.aload_n 3, 1) := by decide +kernel
theorem dX7_soonest_7 : decode cX7_soonest 7 = .ok (.ifnull 29, 3) := by decide +kernel
theorem dX7_soonest_10 : decode cX7_soonest 10 = .ok (.aload_n 3, 1) := by decide +kernel
theorem dX7_soonest_11 : decode cX7_soonest 11 = .ok (.getfield 200, 3) := by decide +kernel
theorem dX7_soonest_14 : decode cX7_soonest 14 = .ok (.ifCond .ne 22, 3) := by decide +kernel
theorem dX7_soonest_17 : decode cX7_soonest 17 = .ok (.aload_n 0, 1) := by decide +kernel
theorem dX7_soonest_18 : decode cX7_soonest 18 = .ok (.iload_n 2, 1) := by decide +kernel
theorem dX7_soonest_19 : decode cX7_soonest 19 = .ok (.invokevirtual 83, 3) := by decide +kernel
theorem dX7_soonest_22 : decode cX7_soonest 22 = .ok (.ifnull 14, 3) := by decide +kernel
theorem dX7_soonest_25 : decode cX7_soonest 25 = .ok (.aload_n 0, 1) := by decide +kernel
theorem dX7_soonest_26 : decode cX7_soonest 26 = .ok (.aload_n 3, 1) := by decide +kernel
theorem dX7_soonest_27 : decode cX7_soonest 27 = .ok (.getfield 197, 3) := by decide +kernel
theorem dX7_soonest_30 : decode cX7_soonest 30 = .ok (.invokevirtual 106, 3) := by decide +kernel
theorem dX7_soonest_33 : decode cX7_soonest 33 = .ok (.ifnonnull 5, 3) := by decide +kernel
theorem dX7_soonest_36 : decode cX7_soonest 36 = .ok (.iconst (-1), 1) := by decide +kernel
theorem dX7_soonest_37 : decode cX7_soonest 37 = .ok (.ireturn, 1) := by decide +kernel
theorem dX7_soonest_38 : decode cX7_soonest 38 = .ok (.aload_n 0, 1) := by decide +kernel
theorem dX7_soonest_39 : decode cX7_soonest 39 = .ok (.iload_n 2, 1) := by decide +kernel
theorem dX7_soonest_40 : decode cX7_soonest 40 = .ok (.aload_n 3, 1) := by decide +kernel
theorem dX7_soonest_41 : decode cX7_soonest 41 = .ok (.getfield 132, 3) := by decide +kernel
theorem dX7_soonest_44 : decode cX7_soonest 44 = .ok (.invokevirtual 269, 3) := by decide +kernel
theorem dX7_soonest_47 : decode cX7_soonest 47 = .ok (.aload_n 0, 1) := by decide +kernel
theorem dX7_soonest_48 : decode cX7_soonest 48 = .ok (.getfield 49, 3) := by decide +kernel
theorem dX7_soonest_51 : decode cX7_soonest 51 = .ok (.aload_n 3, 1) := by decide +kernel
theorem dX7_soonest_52 : decode cX7_soonest 52 = .ok (.getfield 197, 3) := by decide +kernel
theorem dX7_soonest_55 : decode cX7_soonest 55 = .ok (.iaload, 1) := by decide +kernel
theorem dX7_soonest_56 : decode cX7_soonest 56 = .ok (.ireturn, 1) := by decide +kernel
theorem dX7_through_0 : decode cX7_through 0 = .ok (.aload_n 0, 1) := by decide +kernel
theorem dX7_through_1 : decode cX7_through 1 = .ok (.iload_n 1, 1) := by decide +kernel
theorem dX7_through_2 : decode cX7_through 2 = .ok (.iload_n 2, 1) := by decide +kernel
theorem dX7_through_3 : decode cX7_through 3 = .ok (.invokevirtual 272, 3) := by decide +kernel
theorem dX7_through_6 : decode cX7_through 6 = .ok (.istore 4, 2) := by decide +kernel
theorem dX7_through_8 : decode cX7_through 8 = .ok (.aload_n 0, 1) := by decide +kernel
theorem dX7_through_9 : decode cX7_through 9 = .ok (.iload_n 1, 1) := by decide +kernel
theorem dX7_through_10 : decode cX7_through 10 = .ok (.invokevirtual 122, 3) := by decide +kernel
theorem dX7_through_13 : decode cX7_through 13 = .ok (.astore 5, 2) := by decide +kernel
theorem dX7_through_15 : decode cX7_through 15 = .ok (.iload 4, 2) := by decide +kernel
theorem dX7_through_17 : decode cX7_through 17 = .ok (.iconst (-1), 1) := by decide +kernel
theorem dX7_through_18 : decode cX7_through 18 = .ok (.if_icmp .eq 18, 3) := by decide +kernel
theorem dX7_through_21 : decode cX7_through 21 = .ok (.aload 5, 2) := by decide +kernel
theorem dX7_through_23 : decode cX7_through 23 = .ok (.ifnull 13, 3) := by decide +kernel
theorem dX7_through_26 : decode cX7_through 26 = .ok (.iload_n 3, 1) := by decide +kernel
theorem dX7_through_27 : decode cX7_through 27 = .ok (.ifCond .lt 9, 3) := by decide +kernel
theorem dX7_through_30 : decode cX7_through 30 = .ok (.iload_n 3, 1) := by decide +kernel
theorem dX7_through_31 : decode cX7_through 31 = .ok (.iload 4, 2) := by decide +kernel
theorem dX7_through_33 : decode cX7_through 33 = .ok (.if_icmp .le 5, 3) := by decide +kernel
theorem dX7_through_36 : decode cX7_through 36 = .ok (.iconst (-1), 1) := by decide +kernel
theorem dX7_through_37 : decode cX7_through 37 = .ok (.ireturn, 1) := by decide +kernel
theorem dX7_through_38 : decode cX7_through 38 = .ok (.aload 5, 2) := by decide +kernel
theorem dX7_through_40 : decode cX7_through 40 = .ok (.getfield 197, 3) := by decide +kernel
theorem dX7_through_43 : decode cX7_through 43 = .ok (.istore 6, 2) := by decide +kernel
theorem dX7_through_45 : decode cX7_through 45 = .ok (.iconst 0, 1) := by decide +kernel
theorem dX7_through_46 : decode cX7_through 46 = .ok (.istore 7, 2) := by decide +kernel
theorem dX7_through_48 : decode cX7_through 48 = .ok (.iload 7, 2) := by decide +kernel
theorem dX7_through_50 : decode cX7_through 50 = .ok (.iload_n 3, 1) := by decide +kernel
theorem dX7_through_51 : decode cX7_through 51 = .ok (.if_icmp .ge 22, 3) := by decide +kernel
theorem dX7_through_54 : decode cX7_through 54 = .ok (.aload_n 0, 1) := by decide +kernel
theorem dX7_through_55 : decode cX7_through 55 = .ok (.iload 6, 2) := by decide +kernel
theorem dX7_through_57 : decode cX7_through 57 = .ok (.aload 5, 2) := by decide +kernel
theorem dX7_through_59 : decode cX7_through 59 = .ok (.getfield 132, 3) := by decide +kernel
theorem dX7_through_62 : decode cX7_through 62 = .ok (.invokevirtual 275, 3) := by decide +kernel
theorem dX7_through_65 : decode cX7_through 65 = .ok (.istore 6, 2) := by decide +kernel
theorem dX7_through_67 : decode cX7_through 67 = .ok (.iinc 7 1, 3) := by decide +kernel
theorem dX7_through_70 : decode cX7_through 70 = .ok (.goto (-22), 3) := by decide +kernel
theorem dX7_through_73 : decode cX7_through 73 = .ok (.iload 6, 2) := by decide +kernel
theorem dX7_through_75 : decode cX7_through 75 = .ok (.ireturn, 1) := by decide +kernel
theorem dX7_measureGiftsTo_0 : decode cX7_measureGiftsTo 0 = .ok (.aload_n 0, 1) := by decide +kernel
theorem dX7_measureGiftsTo_1 : decode cX7_measureGiftsTo 1 = .ok (.getfield 49, 3) := by decide +kernel
theorem dX7_measureGiftsTo_4 : decode cX7_measureGiftsTo 4 = .ok (.iconst (-1), 1) := by decide +kernel
theorem dX7_measureGiftsTo_5 : decode cX7_measureGiftsTo 5 = .ok (.invokestatic 278, 3) := by decide +kernel
theorem dX7_measureGiftsTo_8 : decode cX7_measureGiftsTo 8 = .ok (.aload_n 0, 1) := by decide +kernel
theorem dX7_measureGiftsTo_9 : decode cX7_measureGiftsTo 9 = .ok (.getfield 49, 3) := by decide +kernel
theorem dX7_measureGiftsTo_12 : decode cX7_measureGiftsTo 12 = .ok (.iload_n 1, 1) := by decide +kernel
theorem dX7_measureGiftsTo_13 : decode cX7_measureGiftsTo 13 = .ok (.iconst 0, 1) := by decide +kernel
theorem dX7_measureGiftsTo_14 : decode cX7_measureGiftsTo 14 = .ok (.iastore, 1) := by decide +kernel
theorem dX7_measureGiftsTo_15 : decode cX7_measureGiftsTo 15 = .ok (.iconst 1, 1) := by decide +kernel
theorem dX7_measureGiftsTo_16 : decode cX7_measureGiftsTo 16 = .ok (.istore_n 3, 1) := by decide +kernel
theorem dX7_measureGiftsTo_17 : decode cX7_measureGiftsTo 17 = .ok (.iload_n 3, 1) := by decide +kernel
theorem dX7_measureGiftsTo_18 : decode cX7_measureGiftsTo 18 = .ok (.aload_n 0, 1) := by decide +kernel
theorem dX7_measureGiftsTo_19 : decode cX7_measureGiftsTo 19 = .ok (.getfield 57, 3) := by decide +kernel
theorem dX7_measureGiftsTo_22 : decode cX7_measureGiftsTo 22 = .ok (.if_icmp .ge 60, 3) := by decide +kernel
theorem dX7_measureGiftsTo_25 : decode cX7_measureGiftsTo 25 = .ok (.iconst 0, 1) := by decide +kernel
theorem dX7_measureGiftsTo_26 : decode cX7_measureGiftsTo 26 = .ok (.istore 4, 2) := by decide +kernel
theorem dX7_measureGiftsTo_28 : decode cX7_measureGiftsTo 28 = .ok (.iload 4, 2) := by decide +kernel
theorem dX7_measureGiftsTo_30 : decode cX7_measureGiftsTo 30 = .ok (.aload_n 0, 1) := by decide +kernel
theorem dX7_measureGiftsTo_31 : decode cX7_measureGiftsTo 31 = .ok (.getfield 57, 3) := by decide +kernel
theorem dX7_measureGiftsTo_34 : decode cX7_measureGiftsTo 34 = .ok (.if_icmp .ge 42, 3) := by decide +kernel
theorem dX7_measureGiftsTo_37 : decode cX7_measureGiftsTo 37 = .ok (.aload_n 0, 1) := by decide +kernel
theorem dX7_measureGiftsTo_38 : decode cX7_measureGiftsTo 38 = .ok (.getfield 49, 3) := by decide +kernel
theorem dX7_measureGiftsTo_41 : decode cX7_measureGiftsTo 41 = .ok (.iload 4, 2) := by decide +kernel
theorem dX7_measureGiftsTo_43 : decode cX7_measureGiftsTo 43 = .ok (.iaload, 1) := by decide +kernel
theorem dX7_measureGiftsTo_44 : decode cX7_measureGiftsTo 44 = .ok (.iconst (-1), 1) := by decide +kernel
theorem dX7_measureGiftsTo_45 : decode cX7_measureGiftsTo 45 = .ok (.if_icmp .ne 25, 3) := by decide +kernel
theorem dX7_measureGiftsTo_48 : decode cX7_measureGiftsTo 48 = .ok (.aload_n 0, 1) := by decide +kernel
theorem dX7_measureGiftsTo_49 : decode cX7_measureGiftsTo 49 = .ok (.iload 4, 2) := by decide +kernel
theorem dX7_measureGiftsTo_51 : decode cX7_measureGiftsTo 51 = .ok (.iload_n 2, 1) := by decide +kernel
theorem dX7_measureGiftsTo_52 : decode cX7_measureGiftsTo 52 = .ok (.iload_n 3, 1) := by decide +kernel
theorem dX7_measureGiftsTo_53 : decode cX7_measureGiftsTo 53 = .ok (.iconst 1, 1) := by decide +kernel
theorem dX7_measureGiftsTo_54 : decode cX7_measureGiftsTo 54 = .ok (.isub, 1) := by decide +kernel
theorem dX7_measureGiftsTo_55 : decode cX7_measureGiftsTo 55 = .ok (.invokevirtual 284, 3) := by decide +kernel
theorem dX7_measureGiftsTo_58 : decode cX7_measureGiftsTo 58 = .ok (.iconst (-1), 1) := by decide +kernel
theorem dX7_measureGiftsTo_59 : decode cX7_measureGiftsTo 59 = .ok (.if_icmp .eq 11, 3) := by decide +kernel
theorem dX7_measureGiftsTo_62 : decode cX7_measureGiftsTo 62 = .ok (.aload_n 0, 1) := by decide +kernel
theorem dX7_measureGiftsTo_63 : decode cX7_measureGiftsTo 63 = .ok (.getfield 49, 3) := by decide +kernel
theorem dX7_measureGiftsTo_66 : decode cX7_measureGiftsTo 66 = .ok (.iload 4, 2) := by decide +kernel
theorem dX7_measureGiftsTo_68 : decode cX7_measureGiftsTo 68 = .ok (.iload_n 3, 1) := by decide +kernel
theorem dX7_measureGiftsTo_69 : decode cX7_measureGiftsTo 69 = .ok (.iastore, 1) := by decide +kernel
theorem dX7_measureGiftsTo_70 : decode cX7_measureGiftsTo 70 = .ok (.iinc 4 1, 3) := by decide +kernel
theorem dX7_measureGiftsTo_73 : decode cX7_measureGiftsTo 73 = .ok (.goto (-45), 3) := by decide +kernel
theorem dX7_measureGiftsTo_76 : decode cX7_measureGiftsTo 76 = .ok (.iinc 3 1, 3) := by decide +kernel
theorem dX7_measureGiftsTo_79 : decode cX7_measureGiftsTo 79 = .ok (.goto (-62), 3) := by decide +kernel
theorem dX7_measureGiftsTo_82 : decode cX7_measureGiftsTo 82 = .ok (.return_, 1) := by decide +kernel
theorem dX7_firstAt_0 : decode cX7_firstAt 0 = .ok (.iconst 0, 1) := by decide +kernel
theorem dX7_firstAt_1 : decode cX7_firstAt 1 = .ok (.istore 4, 2) := by decide +kernel
theorem dX7_firstAt_3 : decode cX7_firstAt 3 = .ok (.iload 4, 2) := by decide +kernel
theorem dX7_firstAt_5 : decode cX7_firstAt 5 = .ok (.aload_n 0, 1) := by decide +kernel
theorem dX7_firstAt_6 : decode cX7_firstAt 6 = .ok (.getfield 57, 3) := by decide +kernel
theorem dX7_firstAt_9 : decode cX7_firstAt 9 = .ok (.if_icmp .ge 34, 3) := by decide +kernel
theorem dX7_firstAt_12 : decode cX7_firstAt 12 = .ok (.aload_n 0, 1) := by decide +kernel
theorem dX7_firstAt_13 : decode cX7_firstAt 13 = .ok (.getfield 49, 3) := by decide +kernel
theorem dX7_firstAt_16 : decode cX7_firstAt 16 = .ok (.iload 4, 2) := by decide +kernel
theorem dX7_firstAt_18 : decode cX7_firstAt 18 = .ok (.iaload, 1) := by decide +kernel
theorem dX7_firstAt_19 : decode cX7_firstAt 19 = .ok (.iload_n 3, 1) := by decide +kernel
theorem dX7_firstAt_20 : decode cX7_firstAt 20 = .ok (.if_icmp .ne 17, 3) := by decide +kernel
theorem dX7_firstAt_23 : decode cX7_firstAt 23 = .ok (.aload_n 0, 1) := by decide +kernel
theorem dX7_firstAt_24 : decode cX7_firstAt 24 = .ok (.iload_n 1, 1) := by decide +kernel
theorem dX7_firstAt_25 : decode cX7_firstAt 25 = .ok (.iload 4, 2) := by decide +kernel
theorem dX7_firstAt_27 : decode cX7_firstAt 27 = .ok (.iload_n 2, 1) := by decide +kernel
theorem dX7_firstAt_28 : decode cX7_firstAt 28 = .ok (.invokevirtual 135, 3) := by decide +kernel
theorem dX7_firstAt_31 : decode cX7_firstAt 31 = .ok (.ifCond .eq 6, 3) := by decide +kernel
theorem dX7_firstAt_34 : decode cX7_firstAt 34 = .ok (.iload 4, 2) := by decide +kernel
theorem dX7_firstAt_36 : decode cX7_firstAt 36 = .ok (.ireturn, 1) := by decide +kernel
theorem dX7_firstAt_37 : decode cX7_firstAt 37 = .ok (.iinc 4 1, 3) := by decide +kernel
theorem dX7_firstAt_40 : decode cX7_firstAt 40 = .ok (.goto (-37), 3) := by decide +kernel
theorem dX7_firstAt_43 : decode cX7_firstAt 43 = .ok (.iconst (-1), 1) := by decide +kernel
theorem dX7_firstAt_44 : decode cX7_firstAt 44 = .ok (.ireturn, 1) := by decide +kernel
theorem dX7_nextOnWay_0 : decode cX7_nextOnWay 0 = .ok (.iload_n 1, 1) := by decide +kernel
theorem dX7_nextOnWay_1 : decode cX7_nextOnWay 1 = .ok (.ifCond .lt 11, 3) := by decide +kernel
theorem dX7_nextOnWay_4 : decode cX7_nextOnWay 4 = .ok (.iload_n 1, 1) := by decide +kernel
theorem dX7_nextOnWay_5 : decode cX7_nextOnWay 5 = .ok (.aload_n 0, 1) := by decide +kernel
theorem dX7_nextOnWay_6 : decode cX7_nextOnWay 6 = .ok (.getfield 57, 3) := by decide +kernel
theorem dX7_nextOnWay_9 : decode cX7_nextOnWay 9 = .ok (.if_icmp .lt 7, 3) := by decide +kernel
theorem dX7_nextOnWay_12 : decode cX7_nextOnWay 12 = .ok (.iconst (-1), 1) := by decide +kernel
theorem dX7_nextOnWay_13 : decode cX7_nextOnWay 13 = .ok (.goto 17, 3) := by decide +kernel
theorem dX7_nextOnWay_16 : decode cX7_nextOnWay 16 = .ok (.aload_n 0, 1) := by decide +kernel
theorem dX7_nextOnWay_17 : decode cX7_nextOnWay 17 = .ok (.iload_n 1, 1) := by decide +kernel
theorem dX7_nextOnWay_18 : decode cX7_nextOnWay 18 = .ok (.iload_n 2, 1) := by decide +kernel
theorem dX7_nextOnWay_19 : decode cX7_nextOnWay 19 = .ok (.aload_n 0, 1) := by decide +kernel
theorem dX7_nextOnWay_20 : decode cX7_nextOnWay 20 = .ok (.getfield 49, 3) := by decide +kernel
theorem dX7_nextOnWay_23 : decode cX7_nextOnWay 23 = .ok (.iload_n 1, 1) := by decide +kernel
theorem dX7_nextOnWay_24 : decode cX7_nextOnWay 24 = .ok (.iaload, 1) := by decide +kernel
theorem dX7_nextOnWay_25 : decode cX7_nextOnWay 25 = .ok (.iconst 1, 1) := by decide +kernel
theorem dX7_nextOnWay_26 : decode cX7_nextOnWay 26 = .ok (.isub, 1) := by decide +kernel
theorem dX7_nextOnWay_27 : decode cX7_nextOnWay 27 = .ok (.invokevirtual 284, 3) := by decide +kernel
theorem dX7_nextOnWay_30 : decode cX7_nextOnWay 30 = .ok (.ireturn, 1) := by decide +kernel
theorem dX7_look_0 : decode cX7_look 0 = .ok (.aload_n 0, 1) := by decide +kernel
theorem dX7_look_1 : decode cX7_look 1 = .ok (.iload_n 1, 1) := by decide +kernel
theorem dX7_look_2 : decode cX7_look 2 = .ok (.invokevirtual 106, 3) := by decide +kernel
theorem dX7_look_5 : decode cX7_look 5 = .ok (.astore_n 3, 1) := by decide +kernel
theorem dX7_look_6 : decode cX7_look 6 = .ok (.aload_n 3, 1) := by decide +kernel
theorem dX7_look_7 : decode cX7_look 7 = .ok (.ifnonnull 5, 3) := by decide +kernel
theorem dX7_look_10 : decode cX7_look 10 = .ok (.iconst (-1), 1) := by decide +kernel
theorem dX7_look_11 : decode cX7_look 11 = .ok (.ireturn, 1) := by decide +kernel
theorem dX7_look_12 : decode cX7_look 12 = .ok (.iload_n 2, 1) := by decide +kernel
theorem dX7_look_13 : decode cX7_look 13 = .ok (.tableswitch 117 0 7 #[47, 52, 65, 70, 76, 86, 96, 109], 47) := by decide +kernel
theorem dX7_look_60 : decode cX7_look 60 = .ok (.aload_n 3, 1) := by decide +kernel
theorem dX7_look_61 : decode cX7_look 61 = .ok (.getfield 90, 3) := by decide +kernel
theorem dX7_look_64 : decode cX7_look 64 = .ok (.ireturn, 1) := by decide +kernel
theorem dX7_look_65 : decode cX7_look 65 = .ok (.aload_n 3, 1) := by decide +kernel
theorem dX7_look_66 : decode cX7_look 66 = .ok (.getfield 109, 3) := by decide +kernel
theorem dX7_look_69 : decode cX7_look 69 = .ok (.ifCond .eq 7, 3) := by decide +kernel
theorem dX7_look_72 : decode cX7_look 72 = .ok (.iconst 1, 1) := by decide +kernel
theorem dX7_look_73 : decode cX7_look 73 = .ok (.goto 4, 3) := by decide +kernel
theorem dX7_look_76 : decode cX7_look 76 = .ok (.iconst 0, 1) := by decide +kernel
theorem dX7_look_77 : decode cX7_look 77 = .ok (.ireturn, 1) := by decide +kernel
theorem dX7_look_78 : decode cX7_look 78 = .ok (.aload_n 3, 1) := by decide +kernel
theorem dX7_look_79 : decode cX7_look 79 = .ok (.getfield 143, 3) := by decide +kernel
theorem dX7_look_82 : decode cX7_look 82 = .ok (.ireturn, 1) := by decide +kernel
theorem dX7_look_83 : decode cX7_look 83 = .ok (.aload_n 0, 1) := by decide +kernel
theorem dX7_look_84 : decode cX7_look 84 = .ok (.iload_n 1, 1) := by decide +kernel
theorem dX7_look_85 : decode cX7_look 85 = .ok (.invokevirtual 288, 3) := by decide +kernel
theorem dX7_look_88 : decode cX7_look 88 = .ok (.ireturn, 1) := by decide +kernel
theorem dX7_look_89 : decode cX7_look 89 = .ok (.aload_n 0, 1) := by decide +kernel
theorem dX7_look_90 : decode cX7_look 90 = .ok (.getfield 38, 3) := by decide +kernel
theorem dX7_look_93 : decode cX7_look 93 = .ok (.iload_n 1, 1) := by decide +kernel
theorem dX7_look_94 : decode cX7_look 94 = .ok (.iconst (-1), 1) := by decide +kernel
theorem dX7_look_95 : decode cX7_look 95 = .ok (.invokevirtual 291, 3) := by decide +kernel
theorem dX7_look_98 : decode cX7_look 98 = .ok (.ireturn, 1) := by decide +kernel
theorem dX7_look_99 : decode cX7_look 99 = .ok (.aload_n 0, 1) := by decide +kernel
theorem dX7_look_100 : decode cX7_look 100 = .ok (.getfield 38, 3) := by decide +kernel
theorem dX7_look_103 : decode cX7_look 103 = .ok (.iconst (-1), 1) := by decide +kernel
theorem dX7_look_104 : decode cX7_look 104 = .ok (.iload_n 1, 1) := by decide +kernel
theorem dX7_look_105 : decode cX7_look 105 = .ok (.invokevirtual 291, 3) := by decide +kernel
theorem dX7_look_108 : decode cX7_look 108 = .ok (.ireturn, 1) := by decide +kernel
theorem dX7_look_109 : decode cX7_look 109 = .ok (.aload_n 0, 1) := by decide +kernel
theorem dX7_look_110 : decode cX7_look 110 = .ok (.getfield 38, 3) := by decide +kernel
theorem dX7_look_113 : decode cX7_look 113 = .ok (.iload_n 1, 1) := by decide +kernel
theorem dX7_look_114 : decode cX7_look 114 = .ok (.aload_n 0, 1) := by decide +kernel
theorem dX7_look_115 : decode cX7_look 115 = .ok (.getfield 63, 3) := by decide +kernel
theorem dX7_look_118 : decode cX7_look 118 = .ok (.invokevirtual 294, 3) := by decide +kernel
theorem dX7_look_121 : decode cX7_look 121 = .ok (.ireturn, 1) := by decide +kernel
theorem dX7_look_122 : decode cX7_look 122 = .ok (.aload_n 3, 1) := by decide +kernel
theorem dX7_look_123 : decode cX7_look 123 = .ok (.getfield 297, 3) := by decide +kernel
theorem dX7_look_126 : decode cX7_look 126 = .ok (.invokestatic 300, 3) := by decide +kernel
theorem dX7_look_129 : decode cX7_look 129 = .ok (.ireturn, 1) := by decide +kernel
theorem dX7_look_130 : decode cX7_look 130 = .ok (.iconst (-1), 1) := by decide +kernel
theorem dX7_look_131 : decode cX7_look 131 = .ok (.ireturn, 1) := by decide +kernel
theorem dX7_treasuresHeldBy_0 : decode cX7_treasuresHeldBy 0 = .ok (.iconst 0, 1) := by decide +kernel
theorem dX7_treasuresHeldBy_1 : decode cX7_treasuresHeldBy 1 = .ok (.istore_n 2, 1) := by decide +kernel
theorem dX7_treasuresHeldBy_2 : decode cX7_treasuresHeldBy 2 = .ok (.iconst 0, 1) := by decide +kernel
theorem dX7_treasuresHeldBy_3 : decode cX7_treasuresHeldBy 3 = .ok (.istore_n 3, 1) := by decide +kernel
theorem dX7_treasuresHeldBy_4 : decode cX7_treasuresHeldBy 4 = .ok (.iload_n 3, 1) := by decide +kernel
theorem dX7_treasuresHeldBy_5 : decode cX7_treasuresHeldBy 5 = .ok (.aload_n 0, 1) := by decide +kernel
theorem dX7_treasuresHeldBy_6 : decode cX7_treasuresHeldBy 6 = .ok (.getfield 60, 3) := by decide +kernel
theorem dX7_treasuresHeldBy_9 : decode cX7_treasuresHeldBy 9 = .ok (.if_icmp .ge 25, 3) := by decide +kernel
theorem dX7_treasuresHeldBy_12 : decode cX7_treasuresHeldBy 12 = .ok (.aload_n 0, 1) := by decide +kernel
theorem dX7_treasuresHeldBy_13 : decode cX7_treasuresHeldBy 13 = .ok (.getfield 31, 3) := by decide +kernel
theorem dX7_treasuresHeldBy_16 : decode cX7_treasuresHeldBy 16 = .ok (.iload_n 3, 1) := by decide +kernel
theorem dX7_treasuresHeldBy_17 : decode cX7_treasuresHeldBy 17 = .ok (.aaload, 1) := by decide +kernel
theorem dX7_treasuresHeldBy_18 : decode cX7_treasuresHeldBy 18 = .ok (.iload_n 1, 1) := by decide +kernel
theorem dX7_treasuresHeldBy_19 : decode cX7_treasuresHeldBy 19 = .ok (.invokevirtual 126, 3) := by decide +kernel
theorem dX7_treasuresHeldBy_22 : decode cX7_treasuresHeldBy 22 = .ok (.ifCond .eq 6, 3) := by decide +kernel
theorem dX7_treasuresHeldBy_25 : decode cX7_treasuresHeldBy 25 = .ok (.iinc 2 1, 3) := by decide +kernel
theorem dX7_treasuresHeldBy_28 : decode cX7_treasuresHeldBy 28 = .ok (.iinc 3 1, 3) := by decide +kernel
theorem dX7_treasuresHeldBy_31 : decode cX7_treasuresHeldBy 31 = .ok (.goto (-27), 3) := by decide +kernel
theorem dX7_treasuresHeldBy_34 : decode cX7_treasuresHeldBy 34 = .ok (.iload_n 2, 1) := by decide +kernel
theorem dX7_treasuresHeldBy_35 : decode cX7_treasuresHeldBy 35 = .ok (.ireturn, 1) := by decide +kernel
theorem dX7_told_0 : decode cX7_told 0 = .ok (.aload_n 0, 1) := by decide +kernel
theorem dX7_told_1 : decode cX7_told 1 = .ok (.iload_n 1, 1) := by decide +kernel
theorem dX7_told_2 : decode cX7_told 2 = .ok (.invokevirtual 122, 3) := by decide +kernel
theorem dX7_told_5 : decode cX7_told 5 = .ok (.astore_n 3, 1) := by decide +kernel
theorem dX7_told_6 : decode cX7_told 6 = .ok (.aload_n 3, 1) := by decide +kernel
theorem dX7_told_7 : decode cX7_told 7 = .ok (.ifnonnull 5, 3) := by decide +kernel
theorem dX7_told_10 : decode cX7_told 10 = .ok (.iconst (-1), 1) := by decide +kernel
theorem dX7_told_11 : decode cX7_told 11 = .ok (.ireturn, 1) := by decide +kernel
theorem dX7_told_12 : decode cX7_told 12 = .ok (.iload_n 2, 1) := by decide +kernel
theorem dX7_told_13 : decode cX7_told 13 = .ok (.tableswitch 71 0 4 #[35, 40, 45, 61, 66], 35) := by decide +kernel
theorem dX7_told_48 : decode cX7_told 48 = .ok (.aload_n 3, 1) := by decide +kernel
theorem dX7_told_49 : decode cX7_told 49 = .ok (.getfield 132, 3) := by decide +kernel
theorem dX7_told_52 : decode cX7_told 52 = .ok (.ireturn, 1) := by decide +kernel
theorem dX7_told_53 : decode cX7_told 53 = .ok (.aload_n 3, 1) := by decide +kernel
theorem dX7_told_54 : decode cX7_told 54 = .ok (.getfield 146, 3) := by decide +kernel
theorem dX7_told_57 : decode cX7_told 57 = .ok (.ireturn, 1) := by decide +kernel
theorem dX7_told_58 : decode cX7_told 58 = .ok (.aload_n 3, 1) := by decide +kernel
theorem dX7_told_59 : decode cX7_told 59 = .ok (.getfield 200, 3) := by decide +kernel
theorem dX7_told_62 : decode cX7_told 62 = .ok (.ifCond .eq 7, 3) := by decide +kernel
theorem dX7_told_65 : decode cX7_told 65 = .ok (.iconst (-1), 1) := by decide +kernel
theorem dX7_told_66 : decode cX7_told 66 = .ok (.goto 7, 3) := by decide +kernel
theorem dX7_told_69 : decode cX7_told 69 = .ok (.aload_n 3, 1) := by decide +kernel
theorem dX7_told_70 : decode cX7_told 70 = .ok (.getfield 197, 3) := by decide +kernel
theorem dX7_told_73 : decode cX7_told 73 = .ok (.ireturn, 1) := by decide +kernel
theorem dX7_told_74 : decode cX7_told 74 = .ok (.aload_n 3, 1) := by decide +kernel
theorem dX7_told_75 : decode cX7_told 75 = .ok (.getfield 203, 3) := by decide +kernel
theorem dX7_told_78 : decode cX7_told 78 = .ok (.ireturn, 1) := by decide +kernel
theorem dX7_told_79 : decode cX7_told 79 = .ok (.aload_n 3, 1) := by decide +kernel
theorem dX7_told_80 : decode cX7_told 80 = .ok (.invokevirtual 236, 3) := by decide +kernel
theorem dX7_told_83 : decode cX7_told 83 = .ok (.ireturn, 1) := by decide +kernel
theorem dX7_told_84 : decode cX7_told 84 = .ok (.iconst (-1), 1) := by decide +kernel
theorem dX7_told_85 : decode cX7_told 85 = .ok (.ireturn, 1) := by decide +kernel
theorem dX7_debt_0 : decode cX7_debt 0 = .ok (.iload_n 1, 1) := by decide +kernel
theorem dX7_debt_1 : decode cX7_debt 1 = .ok (.ifCond .lt 14, 3) := by decide +kernel
theorem dX7_debt_4 : decode cX7_debt 4 = .ok (.iload_n 1, 1) := by decide +kernel
theorem dX7_debt_5 : decode cX7_debt 5 = .ok (.aload_n 0, 1) := by decide +kernel
theorem dX7_debt_6 : decode cX7_debt 6 = .ok (.getfield 38, 3) := by decide +kernel
theorem dX7_debt_9 : decode cX7_debt 9 = .ok (.getfield 246, 3) := by decide +kernel
theorem dX7_debt_12 : decode cX7_debt 12 = .ok (.if_icmp .lt 5, 3) := by decide +kernel
theorem dX7_debt_15 : decode cX7_debt 15 = .ok (.iconst (-1), 1) := by decide +kernel
theorem dX7_debt_16 : decode cX7_debt 16 = .ok (.ireturn, 1) := by decide +kernel
theorem dX7_debt_17 : decode cX7_debt 17 = .ok (.aload_n 0, 1) := by decide +kernel
theorem dX7_debt_18 : decode cX7_debt 18 = .ok (.getfield 38, 3) := by decide +kernel
theorem dX7_debt_21 : decode cX7_debt 21 = .ok (.getfield 247, 3) := by decide +kernel
theorem dX7_debt_24 : decode cX7_debt 24 = .ok (.iload_n 1, 1) := by decide +kernel
theorem dX7_debt_25 : decode cX7_debt 25 = .ok (.aaload, 1) := by decide +kernel
theorem dX7_debt_26 : decode cX7_debt 26 = .ok (.astore_n 3, 1) := by decide +kernel
theorem dX7_debt_27 : decode cX7_debt 27 = .ok (.iload_n 2, 1) := by decide +kernel
theorem dX7_debt_28 : decode cX7_debt 28 = .ok (.tableswitch 92 0 7 #[48, 53, 58, 63, 68, 73, 82, 87], 48) := by decide +kernel
theorem dX7_debt_76 : decode cX7_debt 76 = .ok (.aload_n 3, 1) := by decide +kernel
theorem dX7_debt_77 : decode cX7_debt 77 = .ok (.getfield 254, 3) := by decide +kernel
theorem dX7_debt_80 : decode cX7_debt 80 = .ok (.ireturn, 1) := by decide +kernel
theorem dX7_debt_81 : decode cX7_debt 81 = .ok (.aload_n 3, 1) := by decide +kernel
theorem dX7_debt_82 : decode cX7_debt 82 = .ok (.getfield 305, 3) := by decide +kernel
theorem dX7_debt_85 : decode cX7_debt 85 = .ok (.ireturn, 1) := by decide +kernel
theorem dX7_debt_86 : decode cX7_debt 86 = .ok (.aload_n 3, 1) := by decide +kernel
theorem dX7_debt_87 : decode cX7_debt 87 = .ok (.getfield 308, 3) := by decide +kernel
theorem dX7_debt_90 : decode cX7_debt 90 = .ok (.ireturn, 1) := by decide +kernel
theorem dX7_debt_91 : decode cX7_debt 91 = .ok (.aload_n 3, 1) := by decide +kernel
theorem dX7_debt_92 : decode cX7_debt 92 = .ok (.getfield 185, 3) := by decide +kernel
theorem dX7_debt_95 : decode cX7_debt 95 = .ok (.ireturn, 1) := by decide +kernel
theorem dX7_debt_96 : decode cX7_debt 96 = .ok (.aload_n 3, 1) := by decide +kernel
theorem dX7_debt_97 : decode cX7_debt 97 = .ok (.getfield 191, 3) := by decide +kernel
theorem dX7_debt_100 : decode cX7_debt 100 = .ok (.ireturn, 1) := by decide +kernel
theorem dX7_debt_101 : decode cX7_debt 101 = .ok (.aload_n 3, 1) := by decide +kernel
theorem dX7_debt_102 : decode cX7_debt 102 = .ok (.aload_n 0, 1) := by decide +kernel
theorem dX7_debt_103 : decode cX7_debt 103 = .ok (.getfield 63, 3) := by decide +kernel
theorem dX7_debt_106 : decode cX7_debt 106 = .ok (.invokevirtual 309, 3) := by decide +kernel
theorem dX7_debt_109 : decode cX7_debt 109 = .ok (.ireturn, 1) := by decide +kernel
theorem dX7_debt_110 : decode cX7_debt 110 = .ok (.aload_n 3, 1) := by decide +kernel
theorem dX7_debt_111 : decode cX7_debt 111 = .ok (.getfield 312, 3) := by decide +kernel
theorem dX7_debt_114 : decode cX7_debt 114 = .ok (.ireturn, 1) := by decide +kernel
theorem dX7_debt_115 : decode cX7_debt 115 = .ok (.aload_n 3, 1) := by decide +kernel
theorem dX7_debt_116 : decode cX7_debt 116 = .ok (.getfield 156, 3) := by decide +kernel
theorem dX7_debt_119 : decode cX7_debt 119 = .ok (.ireturn, 1) := by decide +kernel
theorem dX7_debt_120 : decode cX7_debt 120 = .ok (.iconst (-1), 1) := by decide +kernel
theorem dX7_debt_121 : decode cX7_debt 121 = .ok (.ireturn, 1) := by decide +kernel
theorem dX7_quarrel_0 : decode cX7_quarrel 0 = .ok (.aload_n 0, 1) := by decide +kernel
theorem dX7_quarrel_1 : decode cX7_quarrel 1 = .ok (.iload_n 1, 1) := by decide +kernel
theorem dX7_quarrel_2 : decode cX7_quarrel 2 = .ok (.invokevirtual 106, 3) := by decide +kernel
theorem dX7_quarrel_5 : decode cX7_quarrel 5 = .ok (.ifnull 16, 3) := by decide +kernel
theorem dX7_quarrel_8 : decode cX7_quarrel 8 = .ok (.aload_n 0, 1) := by decide +kernel
theorem dX7_quarrel_9 : decode cX7_quarrel 9 = .ok (.iload_n 2, 1) := by decide +kernel
theorem dX7_quarrel_10 : decode cX7_quarrel 10 = .ok (.invokevirtual 106, 3) := by decide +kernel
theorem dX7_quarrel_13 : decode cX7_quarrel 13 = .ok (.ifnull 8, 3) := by decide +kernel
theorem dX7_quarrel_16 : decode cX7_quarrel 16 = .ok (.iload_n 1, 1) := by decide +kernel
theorem dX7_quarrel_17 : decode cX7_quarrel 17 = .ok (.iload_n 2, 1) := by decide +kernel
theorem dX7_quarrel_18 : decode cX7_quarrel 18 = .ok (.if_icmp .ne 5, 3) := by decide +kernel
theorem dX7_quarrel_21 : decode cX7_quarrel 21 = .ok (.iconst (-1), 1) := by decide +kernel
theorem dX7_quarrel_22 : decode cX7_quarrel 22 = .ok (.ireturn, 1) := by decide +kernel
theorem dX7_quarrel_23 : decode cX7_quarrel 23 = .ok (.aload_n 0, 1) := by decide +kernel
theorem dX7_quarrel_24 : decode cX7_quarrel 24 = .ok (.getfield 38, 3) := by decide +kernel
theorem dX7_quarrel_27 : decode cX7_quarrel 27 = .ok (.iload_n 1, 1) := by decide +kernel
theorem dX7_quarrel_28 : decode cX7_quarrel 28 = .ok (.iload_n 2, 1) := by decide +kernel
theorem dX7_quarrel_29 : decode cX7_quarrel 29 = .ok (.aload_n 0, 1) := by decide +kernel
theorem dX7_quarrel_30 : decode cX7_quarrel 30 = .ok (.getfield 63, 3) := by decide +kernel
theorem dX7_quarrel_33 : decode cX7_quarrel 33 = .ok (.invokevirtual 161, 3) := by decide +kernel
theorem dX7_quarrel_36 : decode cX7_quarrel 36 = .ok (.ifCond .eq 7, 3) := by decide +kernel
theorem dX7_quarrel_39 : decode cX7_quarrel 39 = .ok (.iconst 1, 1) := by decide +kernel
theorem dX7_quarrel_40 : decode cX7_quarrel 40 = .ok (.goto 4, 3) := by decide +kernel
theorem dX7_quarrel_43 : decode cX7_quarrel 43 = .ok (.iconst 0, 1) := by decide +kernel
theorem dX7_quarrel_44 : decode cX7_quarrel 44 = .ok (.ireturn, 1) := by decide +kernel
theorem dX7_count_0 : decode cX7_count 0 = .ok (.iload_n 1, 1) := by decide +kernel
theorem dX7_count_1 : decode cX7_count 1 = .ok (.tableswitch 139 0 13 #[71, 76, 81, 86, 91, 96, 104, 114, 119, 139, 127, 127, 127, 127], 71) := by decide +kernel
theorem dX7_count_72 : decode cX7_count 72 = .ok (.aload_n 0, 1) := by decide +kernel
theorem dX7_count_73 : decode cX7_count 73 = .ok (.getfield 53, 3) := by decide +kernel
theorem dX7_count_76 : decode cX7_count 76 = .ok (.ireturn, 1) := by decide +kernel
theorem dX7_count_77 : decode cX7_count 77 = .ok (.aload_n 0, 1) := by decide +kernel
theorem dX7_count_78 : decode cX7_count 78 = .ok (.getfield 57, 3) := by decide +kernel
theorem dX7_count_81 : decode cX7_count 81 = .ok (.ireturn, 1) := by decide +kernel
theorem dX7_count_82 : decode cX7_count 82 = .ok (.aload_n 0, 1) := by decide +kernel
theorem dX7_count_83 : decode cX7_count 83 = .ok (.invokevirtual 315, 3) := by decide +kernel
theorem dX7_count_86 : decode cX7_count 86 = .ok (.ireturn, 1) := by decide +kernel
theorem dX7_count_87 : decode cX7_count 87 = .ok (.aload_n 0, 1) := by decide +kernel
theorem dX7_count_88 : decode cX7_count 88 = .ok (.getfield 60, 3) := by decide +kernel
theorem dX7_count_91 : decode cX7_count 91 = .ok (.ireturn, 1) := by decide +kernel
theorem dX7_count_92 : decode cX7_count 92 = .ok (.aload_n 0, 1) := by decide +kernel
theorem dX7_count_93 : decode cX7_count 93 = .ok (.invokevirtual 318, 3) := by decide +kernel
theorem dX7_count_96 : decode cX7_count 96 = .ok (.ireturn, 1) := by decide +kernel
theorem dX7_count_97 : decode cX7_count 97 = .ok (.aload_n 0, 1) := by decide +kernel
theorem dX7_count_98 : decode cX7_count 98 = .ok (.getfield 38, 3) := by decide +kernel
theorem dX7_count_101 : decode cX7_count 101 = .ok (.getfield 246, 3) := by decide +kernel
theorem dX7_count_104 : decode cX7_count 104 = .ok (.ireturn, 1) := by decide +kernel
theorem dX7_count_105 : decode cX7_count 105 = .ok (.aload_n 0, 1) := by decide +kernel
theorem dX7_count_106 : decode cX7_count 106 = .ok (.getfield 38, 3) := by decide +kernel
theorem dX7_count_109 : decode cX7_count 109 = .ok (.iconst (-1), 1) := by decide +kernel
theorem dX7_count_110 : decode cX7_count 110 = .ok (.iconst (-1), 1) := by decide +kernel
theorem dX7_count_111 : decode cX7_count 111 = .ok (.invokevirtual 291, 3) := by decide +kernel
theorem dX7_count_114 : decode cX7_count 114 = .ok (.ireturn, 1) := by decide +kernel
theorem dX7_count_115 : decode cX7_count 115 = .ok (.aload_n 0, 1) := by decide +kernel
theorem dX7_count_116 : decode cX7_count 116 = .ok (.getfield 63, 3) := by decide +kernel
theorem dX7_count_119 : decode cX7_count 119 = .ok (.ireturn, 1) := by decide +kernel
theorem dX7_count_120 : decode cX7_count 120 = .ok (.aload_n 0, 1) := by decide +kernel
theorem dX7_count_121 : decode cX7_count 121 = .ok (.getfield 10, 3) := by decide +kernel
theorem dX7_count_124 : decode cX7_count 124 = .ok (.getfield 66, 3) := by decide +kernel
theorem dX7_count_127 : decode cX7_count 127 = .ok (.ireturn, 1) := by decide +kernel
theorem dX7_count_128 : decode cX7_count 128 = .ok (.aload_n 0, 1) := by decide +kernel
theorem dX7_count_129 : decode cX7_count 129 = .ok (.getfield 19, 3) := by decide +kernel
theorem dX7_count_132 : decode cX7_count 132 = .ok (.iload_n 1, 1) := by decide +kernel
theorem dX7_count_133 : decode cX7_count 133 = .ok (.bipush 10, 2) := by decide +kernel
theorem dX7_count_135 : decode cX7_count 135 = .ok (.isub, 1) := by decide +kernel
theorem dX7_count_136 : decode cX7_count 136 = .ok (.invokevirtual 321, 3) := by decide +kernel
theorem dX7_count_139 : decode cX7_count 139 = .ok (.ireturn, 1) := by decide +kernel
theorem dX7_count_140 : decode cX7_count 140 = .ok (.iconst (-1), 1) := by decide +kernel
theorem dX7_count_141 : decode cX7_count 141 = .ok (.ireturn, 1) := by decide +kernel
theorem dX7_livingMen_0 : decode cX7_livingMen 0 = .ok (.iconst 0, 1) := by decide +kernel
theorem dX7_livingMen_1 : decode cX7_livingMen 1 = .ok (.istore_n 1, 1) := by decide +kernel
theorem dX7_livingMen_2 : decode cX7_livingMen 2 = .ok (.iconst 0, 1) := by decide +kernel
theorem dX7_livingMen_3 : decode cX7_livingMen 3 = .ok (.istore_n 2, 1) := by decide +kernel
theorem dX7_livingMen_4 : decode cX7_livingMen 4 = .ok (.iload_n 2, 1) := by decide +kernel
theorem dX7_livingMen_5 : decode cX7_livingMen 5 = .ok (.aload_n 0, 1) := by decide +kernel
theorem dX7_livingMen_6 : decode cX7_livingMen 6 = .ok (.getfield 57, 3) := by decide +kernel
theorem dX7_livingMen_9 : decode cX7_livingMen 9 = .ok (.if_icmp .ge 24, 3) := by decide +kernel
theorem dX7_livingMen_12 : decode cX7_livingMen 12 = .ok (.aload_n 0, 1) := by decide +kernel
theorem dX7_livingMen_13 : decode cX7_livingMen 13 = .ok (.getfield 25, 3) := by decide +kernel
theorem dX7_livingMen_16 : decode cX7_livingMen 16 = .ok (.iload_n 2, 1) := by decide +kernel
theorem dX7_livingMen_17 : decode cX7_livingMen 17 = .ok (.aaload, 1) := by decide +kernel
theorem dX7_livingMen_18 : decode cX7_livingMen 18 = .ok (.getfield 109, 3) := by decide +kernel
theorem dX7_livingMen_21 : decode cX7_livingMen 21 = .ok (.ifCond .eq 6, 3) := by decide +kernel
theorem dX7_livingMen_24 : decode cX7_livingMen 24 = .ok (.iinc 1 1, 3) := by decide +kernel
theorem dX7_livingMen_27 : decode cX7_livingMen 27 = .ok (.iinc 2 1, 3) := by decide +kernel
theorem dX7_livingMen_30 : decode cX7_livingMen 30 = .ok (.goto (-26), 3) := by decide +kernel
theorem dX7_livingMen_33 : decode cX7_livingMen 33 = .ok (.iload_n 1, 1) := by decide +kernel
theorem dX7_livingMen_34 : decode cX7_livingMen 34 = .ok (.ireturn, 1) := by decide +kernel
theorem dX7_lostTreasures_0 : decode cX7_lostTreasures 0 = .ok (.iconst 0, 1) := by decide +kernel
theorem dX7_lostTreasures_1 : decode cX7_lostTreasures 1 = .ok (.istore_n 1, 1) := by decide +kernel
theorem dX7_lostTreasures_2 : decode cX7_lostTreasures 2 = .ok (.iconst 0, 1) := by decide +kernel
theorem dX7_lostTreasures_3 : decode cX7_lostTreasures 3 = .ok (.istore_n 2, 1) := by decide +kernel
theorem dX7_lostTreasures_4 : decode cX7_lostTreasures 4 = .ok (.iload_n 2, 1) := by decide +kernel
theorem dX7_lostTreasures_5 : decode cX7_lostTreasures 5 = .ok (.aload_n 0, 1) := by decide +kernel
theorem dX7_lostTreasures_6 : decode cX7_lostTreasures 6 = .ok (.getfield 60, 3) := by decide +kernel
theorem dX7_lostTreasures_9 : decode cX7_lostTreasures 9 = .ok (.if_icmp .ge 24, 3) := by decide +kernel
theorem dX7_lostTreasures_12 : decode cX7_lostTreasures 12 = .ok (.aload_n 0, 1) := by decide +kernel
theorem dX7_lostTreasures_13 : decode cX7_lostTreasures 13 = .ok (.getfield 31, 3) := by decide +kernel
theorem dX7_lostTreasures_16 : decode cX7_lostTreasures 16 = .ok (.iload_n 2, 1) := by decide +kernel
theorem dX7_lostTreasures_17 : decode cX7_lostTreasures 17 = .ok (.aaload, 1) := by decide +kernel
theorem dX7_lostTreasures_18 : decode cX7_lostTreasures 18 = .ok (.getfield 200, 3) := by decide +kernel
theorem dX7_lostTreasures_21 : decode cX7_lostTreasures 21 = .ok (.ifCond .eq 6, 3) := by decide +kernel
theorem dX7_lostTreasures_24 : decode cX7_lostTreasures 24 = .ok (.iinc 1 1, 3) := by decide +kernel
theorem dX7_lostTreasures_27 : decode cX7_lostTreasures 27 = .ok (.iinc 2 1, 3) := by decide +kernel
theorem dX7_lostTreasures_30 : decode cX7_lostTreasures 30 = .ok (.goto (-26), 3) := by decide +kernel
theorem dX7_lostTreasures_33 : decode cX7_lostTreasures 33 = .ok (.iload_n 1, 1) := by decide +kernel
theorem dX7_lostTreasures_34 : decode cX7_lostTreasures 34 = .ok (.ireturn, 1) := by decide +kernel
theorem dX8_init_0 : decode cX8_init 0 = .ok (.aload_n 0, 1) := by decide +kernel
theorem dX8_init_1 : decode cX8_init 1 = .ok (.invokespecial 1, 3) := by decide +kernel
theorem dX8_init_4 : decode cX8_init 4 = .ok (.aload_n 0, 1) := by decide +kernel
theorem dX8_init_5 : decode cX8_init 5 = .ok (.bipush 40, 2) := by decide +kernel
theorem dX8_init_7 : decode cX8_init 7 = .ok (.newarray .byte, 2) := by decide +kernel
theorem dX8_init_9 : decode cX8_init 9 = .ok (.putfield 7, 3) := by decide +kernel
theorem dX8_init_12 : decode cX8_init 12 = .ok (.aload_n 0, 1) := by decide +kernel
theorem dX8_init_13 : decode cX8_init 13 = .ok (.iconst 4, 1) := by decide +kernel
theorem dX8_init_14 : decode cX8_init 14 = .ok (.newarray .int, 2) := by decide +kernel
theorem dX8_init_16 : decode cX8_init 16 = .ok (.putfield 13, 3) := by decide +kernel
theorem dX8_init_19 : decode cX8_init 19 = .ok (.aload_n 0, 1) := by decide +kernel
theorem dX8_init_20 : decode cX8_init 20 = .ok (.iconst 4, 1) := by decide +kernel
theorem dX8_init_21 : decode cX8_init 21 = .ok (.newarray .int, 2) := by decide +kernel
theorem dX8_init_23 : decode cX8_init 23 = .ok (.putfield 17, 3) := by decide +kernel
theorem dX8_init_26 : decode cX8_init 26 = .ok (.aload_n 0, 1) := by decide +kernel
theorem dX8_init_27 : decode cX8_init 27 = .ok (.bipush 6, 2) := by decide +kernel
theorem dX8_init_29 : decode cX8_init 29 = .ok (.putfield 20, 3) := by decide +kernel
theorem dX8_init_32 : decode cX8_init 32 = .ok (.aload_n 0, 1) := by decide +kernel
theorem dX8_init_33 : decode cX8_init 33 = .ok (.bipush 16, 2) := by decide +kernel
theorem dX8_init_35 : decode cX8_init 35 = .ok (.newarray .int, 2) := by decide +kernel
theorem dX8_init_37 : decode cX8_init 37 = .ok (.putfield 24, 3) := by decide +kernel
theorem dX8_init_40 : decode cX8_init 40 = .ok (.aload_n 0, 1) := by decide +kernel
theorem dX8_init_41 : decode cX8_init 41 = .ok (.bipush 16, 2) := by decide +kernel
theorem dX8_init_43 : decode cX8_init 43 = .ok (.newarray .int, 2) := by decide +kernel
theorem dX8_init_45 : decode cX8_init 45 = .ok (.putfield 27, 3) := by decide +kernel
theorem dX8_init_48 : decode cX8_init 48 = .ok (.aload_n 0, 1) := by decide +kernel
theorem dX8_init_49 : decode cX8_init 49 = .ok (.bipush 16, 2) := by decide +kernel
theorem dX8_init_51 : decode cX8_init 51 = .ok (.newarray .boolean, 2) := by decide +kernel
theorem dX8_init_53 : decode cX8_init 53 = .ok (.putfield 30, 3) := by decide +kernel
theorem dX8_init_56 : decode cX8_init 56 = .ok (.aload_n 0, 1) := by decide +kernel
theorem dX8_init_57 : decode cX8_init 57 = .ok (.sipush 256, 3) := by decide +kernel
theorem dX8_init_60 : decode cX8_init 60 = .ok (.newarray .boolean, 2) := by decide +kernel
theorem dX8_init_62 : decode cX8_init 62 = .ok (.putfield 34, 3) := by decide +kernel
theorem dX8_init_65 : decode cX8_init 65 = .ok (.aload_n 0, 1) := by decide +kernel
theorem dX8_init_66 : decode cX8_init 66 = .ok (.bipush 24, 2) := by decide +kernel
theorem dX8_init_68 : decode cX8_init 68 = .ok (.newarray .int, 2) := by decide +kernel
theorem dX8_init_70 : decode cX8_init 70 = .ok (.putfield 37, 3) := by decide +kernel
theorem dX8_init_73 : decode cX8_init 73 = .ok (.aload_n 0, 1) := by decide +kernel
theorem dX8_init_74 : decode cX8_init 74 = .ok (.bipush 24, 2) := by decide +kernel
theorem dX8_init_76 : decode cX8_init 76 = .ok (.newarray .int, 2) := by decide +kernel
theorem dX8_init_78 : decode cX8_init 78 = .ok (.putfield 40, 3) := by decide +kernel
theorem dX8_init_81 : decode cX8_init 81 = .ok (.aload_n 0, 1) := by decide +kernel
theorem dX8_init_82 : decode cX8_init 82 = .ok (.bipush 24, 2) := by decide +kernel
theorem dX8_init_84 : decode cX8_init 84 = .ok (.newarray .int, 2) := by decide +kernel
theorem dX8_init_86 : decode cX8_init 86 = .ok (.putfield 43, 3) := by decide +kernel
theorem dX8_init_89 : decode cX8_init 89 = .ok (.aload_n 0, 1) := by decide +kernel
theorem dX8_init_90 : decode cX8_init 90 = .ok (.bipush 24, 2) := by decide +kernel
theorem dX8_init_92 : decode cX8_init 92 = .ok (.newarray .int, 2) := by decide +kernel
theorem dX8_init_94 : decode cX8_init 94 = .ok (.putfield 46, 3) := by decide +kernel
theorem dX8_init_97 : decode cX8_init 97 = .ok (.aload_n 0, 1) := by decide +kernel
theorem dX8_init_98 : decode cX8_init 98 = .ok (.bipush 24, 2) := by decide +kernel
theorem dX8_init_100 : decode cX8_init 100 = .ok (.newarray .int, 2) := by decide +kernel
theorem dX8_init_102 : decode cX8_init 102 = .ok (.putfield 49, 3) := by decide +kernel
theorem dX8_init_105 : decode cX8_init 105 = .ok (.aload_n 0, 1) := by decide +kernel
theorem dX8_init_106 : decode cX8_init 106 = .ok (.bipush 24, 2) := by decide +kernel
theorem dX8_init_108 : decode cX8_init 108 = .ok (.newarray .int, 2) := by decide +kernel
theorem dX8_init_110 : decode cX8_init 110 = .ok (.putfield 52, 3) := by decide +kernel
theorem dX8_init_113 : decode cX8_init 113 = .ok (.aload_n 0, 1) := by decide +kernel
theorem dX8_init_114 : decode cX8_init 114 = .ok (.sipush 1536, 3) := by decide +kernel
theorem dX8_init_117 : decode cX8_init 117 = .ok (.newarray .int, 2) := by decide +kernel
theorem dX8_init_119 : decode cX8_init 119 = .ok (.putfield 55, 3) := by decide +kernel
theorem dX8_init_122 : decode cX8_init 122 = .ok (.aload_n 0, 1) := by decide +kernel
theorem dX8_init_123 : decode cX8_init 123 = .ok (.bipush 24, 2) := by decide +kernel
theorem dX8_init_125 : decode cX8_init 125 = .ok (.newarray .int, 2) := by decide +kernel
theorem dX8_init_127 : decode cX8_init 127 = .ok (.putfield 58, 3) := by decide +kernel
theorem dX8_init_130 : decode cX8_init 130 = .ok (.aload_n 0, 1) := by decide +kernel
theorem dX8_init_131 : decode cX8_init 131 = .ok (.sipush 2016, 3) := by decide +kernel
theorem dX8_init_134 : decode cX8_init 134 = .ok (.newarray .int, 2) := by decide +kernel
theorem dX8_init_136 : decode cX8_init 136 = .ok (.putfield 61, 3) := by decide +kernel
theorem dX8_init_139 : decode cX8_init 139 = .ok (.aload_n 0, 1) := by decide +kernel
theorem dX8_init_140 : decode cX8_init 140 = .ok (.sipush 2016, 3) := by decide +kernel
theorem dX8_init_143 : decode cX8_init 143 = .ok (.newarray .int, 2) := by decide +kernel
theorem dX8_init_145 : decode cX8_init 145 = .ok (.putfield 64, 3) := by decide +kernel
theorem dX8_init_148 : decode cX8_init 148 = .ok (.aload_n 0, 1) := by decide +kernel
theorem dX8_init_149 : decode cX8_init 149 = .ok (.sipush 2016, 3) := by decide +kernel
theorem dX8_init_152 : decode cX8_init 152 = .ok (.newarray .int, 2) := by decide +kernel
theorem dX8_init_154 : decode cX8_init 154 = .ok (.putfield 67, 3) := by decide +kernel
theorem dX8_init_157 : decode cX8_init 157 = .ok (.aload_n 0, 1) := by decide +kernel
theorem dX8_init_158 : decode cX8_init 158 = .ok (.sipush 200, 3) := by decide +kernel
theorem dX8_init_161 : decode cX8_init 161 = .ok (.newarray .int, 2) := by decide +kernel
theorem dX8_init_163 : decode cX8_init 163 = .ok (.putfield 70, 3) := by decide +kernel
theorem dX8_init_166 : decode cX8_init 166 = .ok (.aload_n 0, 1) := by decide +kernel
theorem dX8_init_167 : decode cX8_init 167 = .ok (.sipush 200, 3) := by decide +kernel
theorem dX8_init_170 : decode cX8_init 170 = .ok (.newarray .int, 2) := by decide +kernel
theorem dX8_init_172 : decode cX8_init 172 = .ok (.putfield 73, 3) := by decide +kernel
theorem dX8_init_175 : decode cX8_init 175 = .ok (.aload_n 0, 1) := by decide +kernel
theorem dX8_init_176 : decode cX8_init 176 = .ok (.sipush 200, 3) := by decide +kernel
theorem dX8_init_179 : decode cX8_init 179 = .ok (.newarray .int, 2) := by decide +kernel
theorem dX8_init_181 : decode cX8_init 181 = .ok (.putfield 76, 3) := by decide +kernel
theorem dX8_init_184 : decode cX8_init 184 = .ok (.aload_n 0, 1) := by decide +kernel
theorem dX8_init_185 : decode cX8_init 185 = .ok (.sipush 200, 3) := by decide +kernel
theorem dX8_init_188 : decode cX8_init 188 = .ok (.newarray .int, 2) := by decide +kernel
theorem dX8_init_190 : decode cX8_init 190 = .ok (.putfield 79, 3) := by decide +kernel
theorem dX8_init_193 : decode cX8_init 193 = .ok (.aload_n 0, 1) := by decide +kernel
theorem dX8_init_194 : decode cX8_init 194 = .ok (.sipush 200, 3) := by decide +kernel
theorem dX8_init_197 : decode cX8_init 197 = .ok (.newarray .int, 2) := by decide +kernel
theorem dX8_init_199 : decode cX8_init 199 = .ok (.putfield 82, 3) := by decide +kernel
theorem dX8_init_202 : decode cX8_init 202 = .ok (.aload_n 0, 1) := by decide +kernel
theorem dX8_init_203 : decode cX8_init 203 = .ok (.sipush 200, 3) := by decide +kernel
theorem dX8_init_206 : decode cX8_init 206 = .ok (.newarray .int, 2) := by decide +kernel
theorem dX8_init_208 : decode cX8_init 208 = .ok (.putfield 85, 3) := by decide +kernel
theorem dX8_init_211 : decode cX8_init 211 = .ok (.aload_n 0, 1) := by decide +kernel
theorem dX8_init_212 : decode cX8_init 212 = .ok (.sipush 200, 3) := by decide +kernel
theorem dX8_init_215 : decode cX8_init 215 = .ok (.newarray .int, 2) := by decide +kernel
theorem dX8_init_217 : decode cX8_init 217 = .ok (.putfield 88, 3) := by decide +kernel
theorem dX8_init_220 : decode cX8_init 220 = .ok (.aload_n 0, 1) := by decide +kernel
theorem dX8_init_221 : decode cX8_init 221 = .ok (.sipush 200, 3) := by decide +kernel
theorem dX8_init_224 : decode cX8_init 224 = .ok (.newarray .boolean, 2) := by decide +kernel
theorem dX8_init_226 : decode cX8_init 226 = .ok (.putfield 91, 3) := by decide +kernel
theorem dX8_init_229 : decode cX8_init 229 = .ok (.aload_n 0, 1) := by decide +kernel
theorem dX8_init_230 : decode cX8_init 230 = .ok (.bipush 8, 2) := by decide +kernel
theorem dX8_init_232 : decode cX8_init 232 = .ok (.newarray .int, 2) := by decide +kernel
theorem dX8_init_234 : decode cX8_init 234 = .ok (.putfield 94, 3) := by decide +kernel
theorem dX8_init_237 : decode cX8_init 237 = .ok (.aload_n 0, 1) := by decide +kernel
theorem dX8_init_238 : decode cX8_init 238 = .ok (.bipush 6, 2) := by decide +kernel
theorem dX8_init_240 : decode cX8_init 240 = .ok (.newarray .int, 2) := by decide +kernel
theorem dX8_init_242 : decode cX8_init 242 = .ok (.putfield 97, 3) := by decide +kernel
theorem dX8_init_245 : decode cX8_init 245 = .ok (.aload_n 0, 1) := by decide +kernel
theorem dX8_init_246 : decode cX8_init 246 = .ok (.bipush 6, 2) := by decide +kernel
theorem dX8_init_248 : decode cX8_init 248 = .ok (.newarray .int, 2) := by decide +kernel
theorem dX8_init_250 : decode cX8_init 250 = .ok (.putfield 100, 3) := by decide +kernel
theorem dX8_init_253 : decode cX8_init 253 = .ok (.aload_n 0, 1) := by decide +kernel
theorem dX8_init_254 : decode cX8_init 254 = .ok (.bipush 6, 2) := by decide +kernel
theorem dX8_init_256 : decode cX8_init 256 = .ok (.newarray .int, 2) := by decide +kernel
theorem dX8_init_258 : decode cX8_init 258 = .ok (.putfield 103, 3) := by decide +kernel
theorem dX8_init_261 : decode cX8_init 261 = .ok (.aload_n 0, 1) := by decide +kernel
theorem dX8_init_262 : decode cX8_init 262 = .ok (.bipush 6, 2) := by decide +kernel
theorem dX8_init_264 : decode cX8_init 264 = .ok (.newarray .int, 2) := by decide +kernel
theorem dX8_init_266 : decode cX8_init 266 = .ok (.putfield 106, 3) := by decide +kernel
theorem dX8_init_269 : decode cX8_init 269 = .ok (.aload_n 0, 1) := by decide +kernel
theorem dX8_init_270 : decode cX8_init 270 = .ok (.bipush 16, 2) := by decide +kernel
theorem dX8_init_272 : decode cX8_init 272 = .ok (.newarray .int, 2) := by decide +kernel
theorem dX8_init_274 : decode cX8_init 274 = .ok (.putfield 109, 3) := by decide +kernel
theorem dX8_init_277 : decode cX8_init 277 = .ok (.aload_n 0, 1) := by decide +kernel
theorem dX8_init_278 : decode cX8_init 278 = .ok (.getfield 13, 3) := by decide +kernel
theorem dX8_init_281 : decode cX8_init 281 = .ok (.invokestatic 112, 3) := by decide +kernel
theorem dX8_init_284 : decode cX8_init 284 = .ok (.iconst 0, 1) := by decide +kernel
theorem dX8_init_285 : decode cX8_init 285 = .ok (.istore_n 1, 1) := by decide +kernel
theorem dX8_init_286 : decode cX8_init 286 = .ok (.iload_n 1, 1) := by decide +kernel
theorem dX8_init_287 : decode cX8_init 287 = .ok (.bipush 6, 2) := by decide +kernel
theorem dX8_init_289 : decode cX8_init 289 = .ok (.if_icmp .ge 16, 3) := by decide +kernel
theorem dX8_init_292 : decode cX8_init 292 = .ok (.aload_n 0, 1) := by decide +kernel
theorem dX8_init_293 : decode cX8_init 293 = .ok (.getfield 106, 3) := by decide +kernel
theorem dX8_init_296 : decode cX8_init 296 = .ok (.iload_n 1, 1) := by decide +kernel
theorem dX8_init_297 : decode cX8_init 297 = .ok (.iconst (-1), 1) := by decide +kernel
theorem dX8_init_298 : decode cX8_init 298 = .ok (.iastore, 1) := by decide +kernel
theorem dX8_init_299 : decode cX8_init 299 = .ok (.iinc 1 1, 3) := by decide +kernel
theorem dX8_init_302 : decode cX8_init 302 = .ok (.goto (-16), 3) := by decide +kernel
theorem dX8_init_305 : decode cX8_init 305 = .ok (.return_, 1) := by decide +kernel
theorem dX8_begins_0 : decode cX8_begins 0 = .ok (.aload_n 0, 1) := by decide +kernel
theorem dX8_begins_1 : decode cX8_begins 1 = .ok (.iconst 0, 1) := by decide +kernel
theorem dX8_begins_2 : decode cX8_begins 2 = .ok (.bipush 80, 2) := by decide +kernel
theorem dX8_begins_4 : decode cX8_begins 4 = .ok (.iastore, 1) := by decide +kernel
theorem dX8_begins_5 : decode cX8_begins 5 = .ok (.aload_n 0, 1) := by decide +kernel
theorem dX8_begins_6 : decode cX8_begins 6 = .ok (.iconst 1, 1) := by decide +kernel
theorem dX8_begins_7 : decode cX8_begins 7 = .ok (.iconst 4, 1) := by decide +kernel
theorem dX8_begins_8 : decode cX8_begins 8 = .ok (.iastore, 1) := by decide +kernel
theorem dX8_begins_9 : decode cX8_begins 9 = .ok (.aload_n 0, 1) := by decide +kernel
theorem dX8_begins_10 : decode cX8_begins 10 = .ok (.iconst 2, 1) := by decide +kernel
theorem dX8_begins_11 : decode cX8_begins 11 = .ok (.iconst 2, 1) := by decide +kernel
theorem dX8_begins_12 : decode cX8_begins 12 = .ok (.iastore, 1) := by decide +kernel
theorem dX8_begins_13 : decode cX8_begins 13 = .ok (.aload_n 0, 1) := by decide +kernel
theorem dX8_begins_14 : decode cX8_begins 14 = .ok (.iconst 3, 1) := by decide +kernel
theorem dX8_begins_15 : decode cX8_begins 15 = .ok (.bipush 6, 2) := by decide +kernel
theorem dX8_begins_17 : decode cX8_begins 17 = .ok (.iastore, 1) := by decide +kernel
theorem dX8_begins_18 : decode cX8_begins 18 = .ok (.return_, 1) := by decide +kernel
theorem dX8_types_0 : decode cX8_types 0 = .ok (.iconst 3, 1) := by decide +kernel
theorem dX8_types_1 : decode cX8_types 1 = .ok (.istore_n 2, 1) := by decide +kernel
theorem dX8_types_2 : decode cX8_types 2 = .ok (.iload_n 2, 1) := by decide +kernel
theorem dX8_types_3 : decode cX8_types 3 = .ok (.ifCond .lt 35, 3) := by decide +kernel
theorem dX8_types_6 : decode cX8_types 6 = .ok (.aload_n 0, 1) := by decide +kernel
theorem dX8_types_7 : decode cX8_types 7 = .ok (.getfield 7, 3) := by decide +kernel
theorem dX8_types_10 : decode cX8_types 10 = .ok (.aload_n 0, 1) := by decide +kernel
theorem dX8_types_11 : decode cX8_types 11 = .ok (.getfield 116, 3) := by decide +kernel
theorem dX8_types_14 : decode cX8_types 14 = .ok (.iload_n 1, 1) := by decide +kernel
theorem dX8_types_15 : decode cX8_types 15 = .ok (.bipush 8, 2) := by decide +kernel
theorem dX8_types_17 : decode cX8_types 17 = .ok (.iload_n 2, 1) := by decide +kernel
theorem dX8_types_18 : decode cX8_types 18 = .ok (.imul, 1) := by decide +kernel
theorem dX8_types_19 : decode cX8_types 19 = .ok (.ishr, 1) := by decide +kernel
theorem dX8_types_20 : decode cX8_types 20 = .ok (.i2b, 1) := by decide +kernel
theorem dX8_types_21 : decode cX8_types 21 = .ok (.bastore, 1) := by decide +kernel
theorem dX8_types_22 : decode cX8_types 22 = .ok (.aload_n 0, 1) := by decide +kernel
theorem dX8_types_23 : decode cX8_types 23 = .ok (.aload_n 0, 1) := by decide +kernel
theorem dX8_types_24 : decode cX8_types 24 = .ok (.getfield 116, 3) := by decide +kernel
theorem dX8_types_27 : decode cX8_types 27 = .ok (.iconst 1, 1) := by decide +kernel
theorem dX8_types_28 : decode cX8_types 28 = .ok (.iadd, 1) := by decide +kernel
theorem dX8_types_29 : decode cX8_types 29 = .ok (.putfield 116, 3) := by decide +kernel
theorem dX8_types_32 : decode cX8_types 32 = .ok (.iinc 2 (-1), 3) := by decide +kernel
theorem dX8_types_35 : decode cX8_types 35 = .ok (.goto (-33), 3) := by decide +kernel
theorem dX8_types_38 : decode cX8_types 38 = .ok (.return_, 1) := by decide +kernel
theorem dX8_feed_0 : decode cX8_feed 0 = .ok (.aload_n 0, 1) := by decide +kernel
theorem dX8_feed_1 : decode cX8_feed 1 = .ok (.getfield 116, 3) := by decide +kernel
theorem dX8_feed_4 : decode cX8_feed 4 = .ok (.bipush 20, 2) := by decide +kernel
theorem dX8_feed_6 : decode cX8_feed 6 = .ok (.iadd, 1) := by decide +kernel
theorem dX8_feed_7 : decode cX8_feed 7 = .ok (.bipush 40, 2) := by decide +kernel
theorem dX8_feed_9 : decode cX8_feed 9 = .ok (.if_icmp .le 5, 3) := by decide +kernel
theorem dX8_feed_12 : decode cX8_feed 12 = .ok (.iconst (-1), 1) := by decide +kernel
theorem dX8_feed_13 : decode cX8_feed 13 = .ok (.ireturn, 1) := by decide +kernel
theorem dX8_feed_14 : decode cX8_feed 14 = .ok (.aload_n 0, 1) := by decide +kernel
theorem dX8_feed_15 : decode cX8_feed 15 = .ok (.iload_n 1, 1) := by decide +kernel
theorem dX8_feed_16 : decode cX8_feed 16 = .ok (.invokevirtual 119, 3) := by decide +kernel
theorem dX8_feed_19 : decode cX8_feed 19 = .ok (.aload_n 0, 1) := by decide +kernel
theorem dX8_feed_20 : decode cX8_feed 20 = .ok (.iload_n 2, 1) := by decide +kernel
theorem dX8_feed_21 : decode cX8_feed 21 = .ok (.invokevirtual 119, 3) := by decide +kernel
theorem dX8_feed_24 : decode cX8_feed 24 = .ok (.aload_n 0, 1) := by decide +kernel
theorem dX8_feed_25 : decode cX8_feed 25 = .ok (.iload_n 3, 1) := by decide +kernel
theorem dX8_feed_26 : decode cX8_feed 26 = .ok (.invokevirtual 119, 3) := by decide +kernel
theorem dX8_feed_29 : decode cX8_feed 29 = .ok (.aload_n 0, 1) := by decide +kernel
theorem dX8_feed_30 : decode cX8_feed 30 = .ok (.iload 4, 2) := by decide +kernel
theorem dX8_feed_32 : decode cX8_feed 32 = .ok (.invokevirtual 119, 3) := by decide +kernel
theorem dX8_feed_35 : decode cX8_feed 35 = .ok (.aload_n 0, 1) := by decide +kernel
theorem dX8_feed_36 : decode cX8_feed 36 = .ok (.iload 5, 2) := by decide +kernel
theorem dX8_feed_38 : decode cX8_feed 38 = .ok (.invokevirtual 119, 3) := by decide +kernel
theorem dX8_feed_41 : decode cX8_feed 41 = .ok (.aload_n 0, 1) := by decide +kernel
theorem dX8_feed_42 : decode cX8_feed 42 = .ok (.getfield 116, 3) := by decide +kernel
theorem dX8_feed_45 : decode cX8_feed 45 = .ok (.ireturn, 1) := by decide +kernel
theorem dX8_letterOf_0 : decode cX8_letterOf 0 = .ok (.iload_n 0, 1) := by decide +kernel
theorem dX8_letterOf_1 : decode cX8_letterOf 1 = .ok (.bipush 112, 2) := by decide +kernel
theorem dX8_letterOf_3 : decode cX8_letterOf 3 = .ok (.if_icmp .ne 7, 3) := by decide +kernel
theorem dX8_letterOf_6 : decode cX8_letterOf 6 = .ok (.iconst 0, 1) := by decide +kernel
theorem dX8_letterOf_7 : decode cX8_letterOf 7 = .ok (.goto 34, 3) := by decide +kernel
theorem dX8_letterOf_10 : decode cX8_letterOf 10 = .ok (.iload_n 0, 1) := by decide +kernel
theorem dX8_letterOf_11 : decode cX8_letterOf 11 = .ok (.bipush 100, 2) := by decide +kernel
theorem dX8_letterOf_13 : decode cX8_letterOf 13 = .ok (.if_icmp .ne 7, 3) := by decide +kernel
theorem dX8_letterOf_16 : decode cX8_letterOf 16 = .ok (.iconst 1, 1) := by decide +kernel
theorem dX8_letterOf_17 : decode cX8_letterOf 17 = .ok (.goto 24, 3) := by decide +kernel
theorem dX8_letterOf_20 : decode cX8_letterOf 20 = .ok (.iload_n 0, 1) := by decide +kernel
theorem dX8_letterOf_21 : decode cX8_letterOf 21 = .ok (.bipush 107, 2) := by decide +kernel
theorem dX8_letterOf_23 : decode cX8_letterOf 23 = .ok (.if_icmp .ne 7, 3) := by decide +kernel
theorem dX8_letterOf_26 : decode cX8_letterOf 26 = .ok (.iconst 2, 1) := by decide +kernel
theorem dX8_letterOf_27 : decode cX8_letterOf 27 = .ok (.goto 14, 3) := by decide +kernel
theorem dX8_letterOf_30 : decode cX8_letterOf 30 = .ok (.iload_n 0, 1) := by decide +kernel
theorem dX8_letterOf_31 : decode cX8_letterOf 31 = .ok (.bipush 104, 2) := by decide +kernel
theorem dX8_letterOf_33 : decode cX8_letterOf 33 = .ok (.if_icmp .ne 7, 3) := by decide +kernel
theorem dX8_letterOf_36 : decode cX8_letterOf 36 = .ok (.iconst 3, 1) := by decide +kernel
theorem dX8_letterOf_37 : decode cX8_letterOf 37 = .ok (.goto 4, 3) := by decide +kernel
theorem dX8_letterOf_40 : decode cX8_letterOf 40 = .ok (.iconst (-1), 1) := by decide +kernel
theorem dX8_letterOf_41 : decode cX8_letterOf 41 = .ok (.ireturn, 1) := by decide +kernel
theorem dX8_canBe_0 : decode cX8_canBe 0 = .ok (.iload_n 0, 1) := by decide +kernel
theorem dX8_canBe_1 : decode cX8_canBe 1 = .ok (.ifCond .ne 23, 3) := by decide +kernel
theorem dX8_canBe_4 : decode cX8_canBe 4 = .ok (.iload_n 1, 1) := by decide +kernel
theorem dX8_canBe_5 : decode cX8_canBe 5 = .ok (.iconst 1, 1) := by decide +kernel
theorem dX8_canBe_6 : decode cX8_canBe 6 = .ok (.if_icmp .lt 14, 3) := by decide +kernel
theorem dX8_canBe_9 : decode cX8_canBe 9 = .ok (.iload_n 1, 1) := by decide +kernel
theorem dX8_canBe_10 : decode cX8_canBe 10 = .ok (.sipush 300, 3) := by decide +kernel
theorem dX8_canBe_13 : decode cX8_canBe 13 = .ok (.if_icmp .gt 7, 3) := by decide +kernel
theorem dX8_canBe_16 : decode cX8_canBe 16 = .ok (.iconst 1, 1) := by decide +kernel
theorem dX8_canBe_17 : decode cX8_canBe 17 = .ok (.goto 42, 3) := by decide +kernel
theorem dX8_canBe_20 : decode cX8_canBe 20 = .ok (.iconst 0, 1) := by decide +kernel
theorem dX8_canBe_21 : decode cX8_canBe 21 = .ok (.goto 38, 3) := by decide +kernel
theorem dX8_canBe_24 : decode cX8_canBe 24 = .ok (.iload_n 0, 1) := by decide +kernel
theorem dX8_canBe_25 : decode cX8_canBe 25 = .ok (.iconst 1, 1) := by decide +kernel
theorem dX8_canBe_26 : decode cX8_canBe 26 = .ok (.if_icmp .ne 22, 3) := by decide +kernel
theorem dX8_canBe_29 : decode cX8_canBe 29 = .ok (.iload_n 1, 1) := by decide +kernel
theorem dX8_canBe_30 : decode cX8_canBe 30 = .ok (.iconst 1, 1) := by decide +kernel
theorem dX8_canBe_31 : decode cX8_canBe 31 = .ok (.if_icmp .lt 13, 3) := by decide +kernel
theorem dX8_canBe_34 : decode cX8_canBe 34 = .ok (.iload_n 1, 1) := by decide +kernel
theorem dX8_canBe_35 : decode cX8_canBe 35 = .ok (.bipush 99, 2) := by decide +kernel
theorem dX8_canBe_37 : decode cX8_canBe 37 = .ok (.if_icmp .gt 7, 3) := by decide +kernel
theorem dX8_canBe_40 : decode cX8_canBe 40 = .ok (.iconst 1, 1) := by decide +kernel
theorem dX8_canBe_41 : decode cX8_canBe 41 = .ok (.goto 18, 3) := by decide +kernel
theorem dX8_canBe_44 : decode cX8_canBe 44 = .ok (.iconst 0, 1) := by decide +kernel
theorem dX8_canBe_45 : decode cX8_canBe 45 = .ok (.goto 14, 3) := by decide +kernel
theorem dX8_canBe_48 : decode cX8_canBe 48 = .ok (.iload_n 1, 1) := by decide +kernel
theorem dX8_canBe_49 : decode cX8_canBe 49 = .ok (.bipush 99, 2) := by decide +kernel
theorem dX8_canBe_51 : decode cX8_canBe 51 = .ok (.if_icmp .gt 7, 3) := by decide +kernel
theorem dX8_canBe_54 : decode cX8_canBe 54 = .ok (.iconst 1, 1) := by decide +kernel
theorem dX8_canBe_55 : decode cX8_canBe 55 = .ok (.goto 4, 3) := by decide +kernel
theorem dX8_canBe_58 : decode cX8_canBe 58 = .ok (.iconst 0, 1) := by decide +kernel
theorem dX8_canBe_59 : decode cX8_canBe 59 = .ok (.ireturn, 1) := by decide +kernel
theorem dX8_isDigit_0 : decode cX8_isDigit 0 = .ok (.iload_n 1, 1) := by decide +kernel
theorem dX8_isDigit_1 : decode cX8_isDigit 1 = .ok (.iload_n 2, 1) := by decide +kernel
theorem dX8_isDigit_2 : decode cX8_isDigit 2 = .ok (.if_icmp .ge 29, 3) := by decide +kernel
theorem dX8_isDigit_5 : decode cX8_isDigit 5 = .ok (.aload_n 0, 1) := by decide +kernel
theorem dX8_isDigit_6 : decode cX8_isDigit 6 = .ok (.getfield 7, 3) := by decide +kernel
theorem dX8_isDigit_9 : decode cX8_isDigit 9 = .ok (.iload_n 1, 1) := by decide +kernel
theorem dX8_isDigit_10 : decode cX8_isDigit 10 = .ok (.baload, 1) := by decide +kernel
theorem dX8_isDigit_11 : decode cX8_isDigit 11 = .ok (.bipush 48, 2) := by decide +kernel
theorem dX8_isDigit_13 : decode cX8_isDigit 13 = .ok (.if_icmp .lt 18, 3) := by decide +kernel
theorem dX8_isDigit_16 : decode cX8_isDigit 16 = .ok (.aload_n 0, 1) := by decide +kernel
theorem dX8_isDigit_17 : decode cX8_isDigit 17 = .ok (.getfield 7, 3) := by decide +kernel
theorem dX8_isDigit_20 : decode cX8_isDigit 20 = .ok (.iload_n 1, 1) := by decide +kernel
theorem dX8_isDigit_21 : decode cX8_isDigit 21 = .ok (.baload, 1) := by decide +kernel
theorem dX8_isDigit_22 : decode cX8_isDigit 22 = .ok (.bipush 57, 2) := by decide +kernel
theorem dX8_isDigit_24 : decode cX8_isDigit 24 = .ok (.if_icmp .gt 7, 3) := by decide +kernel
theorem dX8_isDigit_27 : decode cX8_isDigit 27 = .ok (.iconst 1, 1) := by decide +kernel
theorem dX8_isDigit_28 : decode cX8_isDigit 28 = .ok (.goto 4, 3) := by decide +kernel
theorem dX8_isDigit_31 : decode cX8_isDigit 31 = .ok (.iconst 0, 1) := by decide +kernel
theorem dX8_isDigit_32 : decode cX8_isDigit 32 = .ok (.ireturn, 1) := by decide +kernel
theorem dX8_parse_0 : decode cX8_parse 0 = .ok (.iconst 0, 1) := by decide +kernel
theorem dX8_parse_1 : decode cX8_parse 1 = .ok (.istore_n 2, 1) := by decide +kernel
theorem dX8_parse_2 : decode cX8_parse 2 = .ok (.iload_n 2, 1) := by decide +kernel
theorem dX8_parse_3 : decode cX8_parse 3 = .ok (.iload_n 1, 1) := by decide +kernel
theorem dX8_parse_4 : decode cX8_parse 4 = .ok (.if_icmp .ge 15, 3) := by decide +kernel
theorem dX8_parse_7 : decode cX8_parse 7 = .ok (.aload_n 0, 1) := by decide +kernel
theorem dX8_parse_8 : decode cX8_parse 8 = .ok (.getfield 7, 3) := by decide +kernel
theorem dX8_parse_11 : decode cX8_parse 11 = .ok (.iload_n 2, 1) := by decide +kernel
theorem dX8_parse_12 : decode cX8_parse 12 = .ok (.baload, 1) := by decide +kernel
theorem dX8_parse_13 : decode cX8_parse 13 = .ok (.invokestatic 123, 3) := by decide +kernel
theorem dX8_parse_16 : decode cX8_parse 16 = .ok (.goto 4, 3) := by decide +kernel
theorem dX8_parse_19 : decode cX8_parse 19 = .ok (.iconst (-1), 1) := by decide +kernel
theorem dX8_parse_20 : decode cX8_parse 20 = .ok (.istore_n 3, 1) := by decide +kernel
theorem dX8_parse_21 : decode cX8_parse 21 = .ok (.iload_n 3, 1) := by decide +kernel
theorem dX8_parse_22 : decode cX8_parse 22 = .ok (.iconst (-1), 1) := by decide +kernel
theorem dX8_parse_23 : decode cX8_parse 23 = .ok (.if_icmp .ne 8, 3) := by decide +kernel
theorem dX8_parse_26 : decode cX8_parse 26 = .ok (.bipush 100, 2) := by decide +kernel
theorem dX8_parse_28 : decode cX8_parse 28 = .ok (.iload_n 2, 1) := by decide +kernel
theorem dX8_parse_29 : decode cX8_parse 29 = .ok (.iadd, 1) := by decide +kernel
theorem dX8_parse_30 : decode cX8_parse 30 = .ok (.ireturn, 1) := by decide +kernel
theorem dX8_parse_31 : decode cX8_parse 31 = .ok (.iload_n 2, 1) := by decide +kernel
theorem dX8_parse_32 : decode cX8_parse 32 = .ok (.iconst 1, 1) := by decide +kernel
theorem dX8_parse_33 : decode cX8_parse 33 = .ok (.iadd, 1) := by decide +kernel
theorem dX8_parse_34 : decode cX8_parse 34 = .ok (.istore_n 2, 1) := by decide +kernel
theorem dX8_parse_35 : decode cX8_parse 35 = .ok (.iload_n 2, 1) := by decide +kernel
theorem dX8_parse_36 : decode cX8_parse 36 = .ok (.istore 4, 2) := by decide +kernel
theorem dX8_parse_38 : decode cX8_parse 38 = .ok (.aload_n 0, 1) := by decide +kernel
theorem dX8_parse_39 : decode cX8_parse 39 = .ok (.iload_n 2, 1) := by decide +kernel
theorem dX8_parse_40 : decode cX8_parse 40 = .ok (.iload_n 1, 1) := by decide +kernel
theorem dX8_parse_41 : decode cX8_parse 41 = .ok (.invokevirtual 127, 3) := by decide +kernel
theorem dX8_parse_44 : decode cX8_parse 44 = .ok (.ifCond .ne 9, 3) := by decide +kernel
theorem dX8_parse_47 : decode cX8_parse 47 = .ok (.sipush 200, 3) := by decide +kernel
theorem dX8_parse_50 : decode cX8_parse 50 = .ok (.iload_n 2, 1) := by decide +kernel
theorem dX8_parse_51 : decode cX8_parse 51 = .ok (.iadd, 1) := by decide +kernel
theorem dX8_parse_52 : decode cX8_parse 52 = .ok (.ireturn, 1) := by decide +kernel
theorem dX8_parse_53 : decode cX8_parse 53 = .ok (.iconst 0, 1) := by decide +kernel
theorem dX8_parse_54 : decode cX8_parse 54 = .ok (.istore 5, 2) := by decide +kernel
theorem dX8_parse_56 : decode cX8_parse 56 = .ok (.aload_n 0, 1) := by decide +kernel
theorem dX8_parse_57 : decode cX8_parse 57 = .ok (.iload_n 2, 1) := by decide +kernel
theorem dX8_parse_58 : decode cX8_parse 58 = .ok (.iload_n 1, 1) := by decide +kernel
theorem dX8_parse_59 : decode cX8_parse 59 = .ok (.invokevirtual 127, 3) := by decide +kernel
theorem dX8_parse_62 : decode cX8_parse 62 = .ok (.ifCond .eq 41, 3) := by decide +kernel
theorem dX8_parse_65 : decode cX8_parse 65 = .ok (.iload_n 2, 1) := by decide +kernel
theorem dX8_parse_66 : decode cX8_parse 66 = .ok (.iload 4, 2) := by decide +kernel
theorem dX8_parse_68 : decode cX8_parse 68 = .ok (.iconst 4, 1) := by decide +kernel
theorem dX8_parse_69 : decode cX8_parse 69 = .ok (.iadd, 1) := by decide +kernel
theorem dX8_parse_70 : decode cX8_parse 70 = .ok (.if_icmp .ne 9, 3) := by decide +kernel
theorem dX8_parse_73 : decode cX8_parse 73 = .ok (.sipush 300, 3) := by decide +kernel
theorem dX8_parse_76 : decode cX8_parse 76 = .ok (.iload_n 2, 1) := by decide +kernel
theorem dX8_parse_77 : decode cX8_parse 77 = .ok (.iadd, 1) := by decide +kernel
theorem dX8_parse_78 : decode cX8_parse 78 = .ok (.ireturn, 1) := by decide +kernel
theorem dX8_parse_79 : decode cX8_parse 79 = .ok (.bipush 10, 2) := by decide +kernel
theorem dX8_parse_81 : decode cX8_parse 81 = .ok (.iload 5, 2) := by decide +kernel
theorem dX8_parse_83 : decode cX8_parse 83 = .ok (.imul, 1) := by decide +kernel
theorem dX8_parse_84 : decode cX8_parse 84 = .ok (.aload_n 0, 1) := by decide +kernel
theorem dX8_parse_85 : decode cX8_parse 85 = .ok (.getfield 7, 3) := by decide +kernel
theorem dX8_parse_88 : decode cX8_parse 88 = .ok (.iload_n 2, 1) := by decide +kernel
theorem dX8_parse_89 : decode cX8_parse 89 = .ok (.baload, 1) := by decide +kernel
theorem dX8_parse_90 : decode cX8_parse 90 = .ok (.iadd, 1) := by decide +kernel
theorem dX8_parse_91 : decode cX8_parse 91 = .ok (.bipush 48, 2) := by decide +kernel
theorem dX8_parse_93 : decode cX8_parse 93 = .ok (.isub, 1) := by decide +kernel
theorem dX8_parse_94 : decode cX8_parse 94 = .ok (.istore 5, 2) := by decide +kernel
theorem dX8_parse_96 : decode cX8_parse 96 = .ok (.iload_n 2, 1) := by decide +kernel
theorem dX8_parse_97 : decode cX8_parse 97 = .ok (.iconst 1, 1) := by decide +kernel
theorem dX8_parse_98 : decode cX8_parse 98 = .ok (.iadd, 1) := by decide +kernel
theorem dX8_parse_99 : decode cX8_parse 99 = .ok (.istore_n 2, 1) := by decide +kernel
theorem dX8_parse_100 : decode cX8_parse 100 = .ok (.goto (-44), 3) := by decide +kernel
theorem dX8_parse_103 : decode cX8_parse 103 = .ok (.iload_n 3, 1) := by decide +kernel
theorem dX8_parse_104 : decode cX8_parse 104 = .ok (.iload 5, 2) := by decide +kernel
theorem dX8_parse_106 : decode cX8_parse 106 = .ok (.invokestatic 131, 3) := by decide +kernel
theorem dX8_parse_109 : decode cX8_parse 109 = .ok (.ifCond .ne 10, 3) := by decide +kernel
theorem dX8_parse_112 : decode cX8_parse 112 = .ok (.sipush 400, 3) := by decide +kernel
theorem dX8_parse_115 : decode cX8_parse 115 = .ok (.iload 4, 2) := by decide +kernel
theorem dX8_parse_117 : decode cX8_parse 117 = .ok (.iadd, 1) := by decide +kernel
theorem dX8_parse_118 : decode cX8_parse 118 = .ok (.ireturn, 1) := by decide +kernel
theorem dX8_parse_119 : decode cX8_parse 119 = .ok (.aload_n 0, 1) := by decide +kernel
theorem dX8_parse_120 : decode cX8_parse 120 = .ok (.getfield 17, 3) := by decide +kernel
theorem dX8_parse_123 : decode cX8_parse 123 = .ok (.iload_n 3, 1) := by decide +kernel
theorem dX8_parse_124 : decode cX8_parse 124 = .ok (.iload 5, 2) := by decide +kernel
theorem dX8_parse_126 : decode cX8_parse 126 = .ok (.iastore, 1) := by decide +kernel
theorem dX8_parse_127 : decode cX8_parse 127 = .ok (.iload_n 2, 1) := by decide +kernel
theorem dX8_parse_128 : decode cX8_parse 128 = .ok (.iload_n 1, 1) := by decide +kernel
theorem dX8_parse_129 : decode cX8_parse 129 = .ok (.if_icmp .ne 5, 3) := by decide +kernel
theorem dX8_parse_132 : decode cX8_parse 132 = .ok (.iconst 0, 1) := by decide +kernel
theorem dX8_parse_133 : decode cX8_parse 133 = .ok (.ireturn, 1) := by decide +kernel
theorem dX8_parse_134 : decode cX8_parse 134 = .ok (.aload_n 0, 1) := by decide +kernel
theorem dX8_parse_135 : decode cX8_parse 135 = .ok (.getfield 7, 3) := by decide +kernel
theorem dX8_parse_138 : decode cX8_parse 138 = .ok (.iload_n 2, 1) := by decide +kernel
theorem dX8_parse_139 : decode cX8_parse 139 = .ok (.baload, 1) := by decide +kernel
theorem dX8_parse_140 : decode cX8_parse 140 = .ok (.bipush 59, 2) := by decide +kernel
theorem dX8_parse_142 : decode cX8_parse 142 = .ok (.if_icmp .eq 9, 3) := by decide +kernel
theorem dX8_parse_145 : decode cX8_parse 145 = .ok (.sipush 500, 3) := by decide +kernel
theorem dX8_parse_148 : decode cX8_parse 148 = .ok (.iload_n 2, 1) := by decide +kernel
theorem dX8_parse_149 : decode cX8_parse 149 = .ok (.iadd, 1) := by decide +kernel
theorem dX8_parse_150 : decode cX8_parse 150 = .ok (.ireturn, 1) := by decide +kernel
theorem dX8_parse_151 : decode cX8_parse 151 = .ok (.iload_n 2, 1) := by decide +kernel
theorem dX8_parse_152 : decode cX8_parse 152 = .ok (.iconst 1, 1) := by decide +kernel
theorem dX8_parse_153 : decode cX8_parse 153 = .ok (.iadd, 1) := by decide +kernel
theorem dX8_parse_154 : decode cX8_parse 154 = .ok (.istore_n 2, 1) := by decide +kernel
theorem dX8_parse_155 : decode cX8_parse 155 = .ok (.goto (-153), 3) := by decide +kernel
theorem dX8_custom_0 : decode cX8_custom 0 = .ok (.iload_n 1, 1) := by decide +kernel
theorem dX8_custom_1 : decode cX8_custom 1 = .ok (.ifCond .lt 11, 3) := by decide +kernel
theorem dX8_custom_4 : decode cX8_custom 4 = .ok (.iload_n 1, 1) := by decide +kernel
theorem dX8_custom_5 : decode cX8_custom 5 = .ok (.aload_n 0, 1) := by decide +kernel
theorem dX8_custom_6 : decode cX8_custom 6 = .ok (.getfield 116, 3) := by decide +kernel
theorem dX8_custom_9 : decode cX8_custom 9 = .ok (.if_icmp .le 5, 3) := by decide +kernel
theorem dX8_custom_12 : decode cX8_custom 12 = .ok (.iconst (-1), 1) := by decide +kernel
theorem dX8_custom_13 : decode cX8_custom 13 = .ok (.ireturn, 1) := by decide +kernel
theorem dX8_custom_14 : decode cX8_custom 14 = .ok (.aload_n 0, 1) := by decide +kernel
theorem dX8_custom_15 : decode cX8_custom 15 = .ok (.getfield 17, 3) := by decide +kernel
theorem dX8_custom_18 : decode cX8_custom 18 = .ok (.invokestatic 112, 3) := by decide +kernel
theorem dX8_custom_21 : decode cX8_custom 21 = .ok (.aload_n 0, 1) := by decide +kernel
theorem dX8_custom_22 : decode cX8_custom 22 = .ok (.iload_n 1, 1) := by decide +kernel
theorem dX8_custom_23 : decode cX8_custom 23 = .ok (.invokevirtual 134, 3) := by decide +kernel
theorem dX8_custom_26 : decode cX8_custom 26 = .ok (.istore_n 2, 1) := by decide +kernel
theorem dX8_custom_27 : decode cX8_custom 27 = .ok (.aload_n 0, 1) := by decide +kernel
theorem dX8_custom_28 : decode cX8_custom 28 = .ok (.iconst 0, 1) := by decide +kernel
theorem dX8_custom_29 : decode cX8_custom 29 = .ok (.putfield 116, 3) := by decide +kernel
theorem dX8_custom_32 : decode cX8_custom 32 = .ok (.iconst 0, 1) := by decide +kernel
theorem dX8_custom_33 : decode cX8_custom 33 = .ok (.istore_n 3, 1) := by decide +kernel
theorem dX8_custom_34 : decode cX8_custom 34 = .ok (.iload_n 3, 1) := by decide +kernel
theorem dX8_custom_35 : decode cX8_custom 35 = .ok (.iconst 4, 1) := by decide +kernel
theorem dX8_custom_36 : decode cX8_custom 36 = .ok (.if_icmp .ge 25, 3) := by decide +kernel
theorem dX8_custom_39 : decode cX8_custom 39 = .ok (.iload_n 2, 1) := by decide +kernel
theorem dX8_custom_40 : decode cX8_custom 40 = .ok (.ifCond .ne 21, 3) := by decide +kernel
theorem dX8_custom_43 : decode cX8_custom 43 = .ok (.aload_n 0, 1) := by decide +kernel
theorem dX8_custom_44 : decode cX8_custom 44 = .ok (.getfield 13, 3) := by decide +kernel
theorem dX8_custom_47 : decode cX8_custom 47 = .ok (.iload_n 3, 1) := by decide +kernel
theorem dX8_custom_48 : decode cX8_custom 48 = .ok (.aload_n 0, 1) := by decide +kernel
theorem dX8_custom_49 : decode cX8_custom 49 = .ok (.getfield 17, 3) := by decide +kernel
theorem dX8_custom_52 : decode cX8_custom 52 = .ok (.iload_n 3, 1) := by decide +kernel
theorem dX8_custom_53 : decode cX8_custom 53 = .ok (.iaload, 1) := by decide +kernel
theorem dX8_custom_54 : decode cX8_custom 54 = .ok (.iastore, 1) := by decide +kernel
theorem dX8_custom_55 : decode cX8_custom 55 = .ok (.iinc 3 1, 3) := by decide +kernel
theorem dX8_custom_58 : decode cX8_custom 58 = .ok (.goto (-24), 3) := by decide +kernel
theorem dX8_custom_61 : decode cX8_custom 61 = .ok (.iload_n 2, 1) := by decide +kernel
theorem dX8_custom_62 : decode cX8_custom 62 = .ok (.ireturn, 1) := by decide +kernel
theorem dX8_isMan_0 : decode cX8_isMan 0 = .ok (.iload_n 1, 1) := by decide +kernel
theorem dX8_isMan_1 : decode cX8_isMan 1 = .ok (.ifCond .lt 15, 3) := by decide +kernel
theorem dX8_isMan_4 : decode cX8_isMan 4 = .ok (.iload_n 1, 1) := by decide +kernel
theorem dX8_isMan_5 : decode cX8_isMan 5 = .ok (.aload_n 0, 1) := by decide +kernel
theorem dX8_isMan_6 : decode cX8_isMan 6 = .ok (.getfield 137, 3) := by decide +kernel
theorem dX8_isMan_9 : decode cX8_isMan 9 = .ok (.if_icmp .ge 7, 3) := by decide +kernel
theorem dX8_isMan_12 : decode cX8_isMan 12 = .ok (.iconst 1, 1) := by decide +kernel
theorem dX8_isMan_13 : decode cX8_isMan 13 = .ok (.goto 4, 3) := by decide +kernel
theorem dX8_isMan_16 : decode cX8_isMan 16 = .ok (.iconst 0, 1) := by decide +kernel
theorem dX8_isMan_17 : decode cX8_isMan 17 = .ok (.ireturn, 1) := by decide +kernel
theorem dX8_lives_0 : decode cX8_lives 0 = .ok (.aload_n 0, 1) := by decide +kernel
theorem dX8_lives_1 : decode cX8_lives 1 = .ok (.iload_n 1, 1) := by decide +kernel
theorem dX8_lives_2 : decode cX8_lives 2 = .ok (.invokevirtual 140, 3) := by decide +kernel
theorem dX8_lives_5 : decode cX8_lives 5 = .ok (.ifCond .eq 16, 3) := by decide +kernel
theorem dX8_lives_8 : decode cX8_lives 8 = .ok (.aload_n 0, 1) := by decide +kernel
theorem dX8_lives_9 : decode cX8_lives 9 = .ok (.getfield 30, 3) := by decide +kernel
theorem dX8_lives_12 : decode cX8_lives 12 = .ok (.iload_n 1, 1) := by decide +kernel
theorem dX8_lives_13 : decode cX8_lives 13 = .ok (.baload, 1) := by decide +kernel
theorem dX8_lives_14 : decode cX8_lives 14 = .ok (.ifCond .eq 7, 3) := by decide +kernel
theorem dX8_lives_17 : decode cX8_lives 17 = .ok (.iconst 1, 1) := by decide +kernel
theorem dX8_lives_18 : decode cX8_lives 18 = .ok (.goto 4, 3) := by decide +kernel
theorem dX8_lives_21 : decode cX8_lives 21 = .ok (.iconst 0, 1) := by decide +kernel
theorem dX8_lives_22 : decode cX8_lives 22 = .ok (.ireturn, 1) := by decide +kernel
theorem dX8_islands_0 : decode cX8_islands 0 = .ok (.iload_n 1, 1) := by decide +kernel
theorem dX8_islands_1 : decode cX8_islands 1 = .ok (.iconst 3, 1) := by decide +kernel
theorem dX8_islands_2 : decode cX8_islands 2 = .ok (.if_icmp .lt 16, 3) := by decide +kernel
theorem dX8_islands_5 : decode cX8_islands 5 = .ok (.iload_n 1, 1) := by decide +kernel
theorem dX8_islands_6 : decode cX8_islands 6 = .ok (.bipush 8, 2) := by decide +kernel
theorem dX8_islands_8 : decode cX8_islands 8 = .ok (.if_icmp .gt 10, 3) := by decide +kernel
theorem dX8_islands_11 : decode cX8_islands 11 = .ok (.aload_n 0, 1) := by decide +kernel
theorem dX8_islands_12 : decode cX8_islands 12 = .ok (.getfield 137, 3) := by decide +kernel
theorem dX8_islands_15 : decode cX8_islands 15 = .ok (.ifCond .le 5, 3) := by decide +kernel
theorem dX8_islands_18 : decode cX8_islands 18 = .ok (.iconst 0, 1) := by decide +kernel
theorem dX8_islands_19 : decode cX8_islands 19 = .ok (.ireturn, 1) := by decide +kernel
theorem dX8_islands_20 : decode cX8_islands 20 = .ok (.aload_n 0, 1) := by decide +kernel
theorem dX8_islands_21 : decode cX8_islands 21 = .ok (.iload_n 1, 1) := by decide +kernel
theorem dX8_islands_22 : decode cX8_islands 22 = .ok (.putfield 20, 3) := by decide +kernel
theorem dX8_islands_25 : decode cX8_islands 25 = .ok (.iconst 1, 1) := by decide +kernel
theorem dX8_islands_26 : decode cX8_islands 26 = .ok (.ireturn, 1) := by decide +kernel
theorem dX8_man_0 : decode cX8_man 0 = .ok (.iload_n 1, 1) := by decide +kernel
theorem dX8_man_1 : decode cX8_man 1 = .ok (.ifCond .lt 20, 3) := by decide +kernel
theorem dX8_man_4 : decode cX8_man 4 = .ok (.iload_n 1, 1) := by decide +kernel
theorem dX8_man_5 : decode cX8_man 5 = .ok (.aload_n 0, 1) := by decide +kernel
theorem dX8_man_6 : decode cX8_man 6 = .ok (.getfield 20, 3) := by decide +kernel
theorem dX8_man_9 : decode cX8_man 9 = .ok (.if_icmp .ge 12, 3) := by decide +kernel
theorem dX8_man_12 : decode cX8_man 12 = .ok (.aload_n 0, 1) := by decide +kernel
theorem dX8_man_13 : decode cX8_man 13 = .ok (.getfield 137, 3) := by decide +kernel
theorem dX8_man_16 : decode cX8_man 16 = .ok (.bipush 16, 2) := by decide +kernel
theorem dX8_man_18 : decode cX8_man 18 = .ok (.if_icmp .ne 5, 3) := by decide +kernel
theorem dX8_man_21 : decode cX8_man 21 = .ok (.iconst (-1), 1) := by decide +kernel
theorem dX8_man_22 : decode cX8_man 22 = .ok (.ireturn, 1) := by decide +kernel
theorem dX8_man_23 : decode cX8_man 23 = .ok (.aload_n 0, 1) := by decide +kernel
theorem dX8_man_24 : decode cX8_man 24 = .ok (.getfield 24, 3) := by decide +kernel
theorem dX8_man_27 : decode cX8_man 27 = .ok (.aload_n 0, 1) := by decide +kernel
theorem dX8_man_28 : decode cX8_man 28 = .ok (.getfield 137, 3) := by decide +kernel
theorem dX8_man_31 : decode cX8_man 31 = .ok (.iload_n 1, 1) := by decide +kernel
theorem dX8_man_32 : decode cX8_man 32 = .ok (.iastore, 1) := by decide +kernel
theorem dX8_man_33 : decode cX8_man 33 = .ok (.aload_n 0, 1) := by decide +kernel
theorem dX8_man_34 : decode cX8_man 34 = .ok (.getfield 30, 3) := by decide +kernel
theorem dX8_man_37 : decode cX8_man 37 = .ok (.aload_n 0, 1) := by decide +kernel
theorem dX8_man_38 : decode cX8_man 38 = .ok (.getfield 137, 3) := by decide +kernel
theorem dX8_man_41 : decode cX8_man 41 = .ok (.iconst 1, 1) := by decide +kernel
theorem dX8_man_42 : decode cX8_man 42 = .ok (.bastore, 1) := by decide +kernel
theorem dX8_man_43 : decode cX8_man 43 = .ok (.aload_n 0, 1) := by decide +kernel
theorem dX8_man_44 : decode cX8_man 44 = .ok (.aload_n 0, 1) := by decide +kernel
theorem dX8_man_45 : decode cX8_man 45 = .ok (.getfield 137, 3) := by decide +kernel
theorem dX8_man_48 : decode cX8_man 48 = .ok (.iconst 1, 1) := by decide +kernel
theorem dX8_man_49 : decode cX8_man 49 = .ok (.iadd, 1) := by decide +kernel
theorem dX8_man_50 : decode cX8_man 50 = .ok (.putfield 137, 3) := by decide +kernel
theorem dX8_man_53 : decode cX8_man 53 = .ok (.aload_n 0, 1) := by decide +kernel
theorem dX8_man_54 : decode cX8_man 54 = .ok (.getfield 137, 3) := by decide +kernel
theorem dX8_man_57 : decode cX8_man 57 = .ok (.iconst 1, 1) := by decide +kernel
theorem dX8_man_58 : decode cX8_man 58 = .ok (.isub, 1) := by decide +kernel
theorem dX8_man_59 : decode cX8_man 59 = .ok (.ireturn, 1) := by decide +kernel
theorem dX8_nextOf_0 : decode cX8_nextOf 0 = .ok (.iload_n 1, 1) := by decide +kernel
theorem dX8_nextOf_1 : decode cX8_nextOf 1 = .ok (.iconst 1, 1) := by decide +kernel
theorem dX8_nextOf_2 : decode cX8_nextOf 2 = .ok (.iadd, 1) := by decide +kernel
theorem dX8_nextOf_3 : decode cX8_nextOf 3 = .ok (.aload_n 0, 1) := by decide +kernel
theorem dX8_nextOf_4 : decode cX8_nextOf 4 = .ok (.getfield 20, 3) := by decide +kernel
theorem dX8_nextOf_7 : decode cX8_nextOf 7 = .ok (.irem, 1) := by decide +kernel
theorem dX8_nextOf_8 : decode cX8_nextOf 8 = .ok (.ireturn, 1) := by decide +kernel
theorem dX8_partners_0 : decode cX8_partners 0 = .ok (.aload_n 0, 1) := by decide +kernel
theorem dX8_partners_1 : decode cX8_partners 1 = .ok (.iload_n 1, 1) := by decide +kernel
theorem dX8_partners_2 : decode cX8_partners 2 = .ok (.invokevirtual 144, 3) := by decide +kernel
theorem dX8_partners_5 : decode cX8_partners 5 = .ok (.ifCond .eq 25, 3) := by decide +kernel
theorem dX8_partners_8 : decode cX8_partners 8 = .ok (.aload_n 0, 1) := by decide +kernel
theorem dX8_partners_9 : decode cX8_partners 9 = .ok (.iload_n 2, 1) := by decide +kernel
theorem dX8_partners_10 : decode cX8_partners 10 = .ok (.invokevirtual 144, 3) := by decide +kernel
theorem dX8_partners_13 : decode cX8_partners 13 = .ok (.ifCond .eq 17, 3) := by decide +kernel
theorem dX8_partners_16 : decode cX8_partners 16 = .ok (.aload_n 0, 1) := by decide +kernel
theorem dX8_partners_17 : decode cX8_partners 17 = .ok (.getfield 34, 3) := by decide +kernel
theorem dX8_partners_20 : decode cX8_partners 20 = .ok (.bipush 16, 2) := by decide +kernel
theorem dX8_partners_22 : decode cX8_partners 22 = .ok (.iload_n 1, 1) := by decide +kernel
theorem dX8_partners_23 : decode cX8_partners 23 = .ok (.imul, 1) := by decide +kernel
theorem dX8_partners_24 : decode cX8_partners 24 = .ok (.iload_n 2, 1) := by decide +kernel
theorem dX8_partners_25 : decode cX8_partners 25 = .ok (.iadd, 1) := by decide +kernel
theorem dX8_partners_26 : decode cX8_partners 26 = .ok (.baload, 1) := by decide +kernel
theorem dX8_partners_27 : decode cX8_partners 27 = .ok (.ifCond .eq 5, 3) := by decide +kernel
theorem dX8_partners_30 : decode cX8_partners 30 = .ok (.iconst 0, 1) := by decide +kernel
theorem dX8_partners_31 : decode cX8_partners 31 = .ok (.ireturn, 1) := by decide +kernel
theorem dX8_partners_32 : decode cX8_partners 32 = .ok (.aload_n 0, 1) := by decide +kernel
theorem dX8_partners_33 : decode cX8_partners 33 = .ok (.aload_n 0, 1) := by decide +kernel
theorem dX8_partners_34 : decode cX8_partners 34 = .ok (.getfield 24, 3) := by decide +kernel
theorem dX8_partners_37 : decode cX8_partners 37 = .ok (.iload_n 1, 1) := by decide +kernel
theorem dX8_partners_38 : decode cX8_partners 38 = .ok (.iaload, 1) := by decide +kernel
theorem dX8_partners_39 : decode cX8_partners 39 = .ok (.invokevirtual 147, 3) := by decide +kernel
theorem dX8_partners_42 : decode cX8_partners 42 = .ok (.aload_n 0, 1) := by decide +kernel
theorem dX8_partners_43 : decode cX8_partners 43 = .ok (.getfield 24, 3) := by decide +kernel
theorem dX8_partners_46 : decode cX8_partners 46 = .ok (.iload_n 2, 1) := by decide +kernel
theorem dX8_partners_47 : decode cX8_partners 47 = .ok (.iaload, 1) := by decide +kernel
theorem dX8_partners_48 : decode cX8_partners 48 = .ok (.if_icmp .eq 24, 3) := by decide +kernel
theorem dX8_partners_51 : decode cX8_partners 51 = .ok (.aload_n 0, 1) := by decide +kernel
theorem dX8_partners_52 : decode cX8_partners 52 = .ok (.aload_n 0, 1) := by decide +kernel
theorem dX8_partners_53 : decode cX8_partners 53 = .ok (.getfield 24, 3) := by decide +kernel
theorem dX8_partners_56 : decode cX8_partners 56 = .ok (.iload_n 2, 1) := by decide +kernel
theorem dX8_partners_57 : decode cX8_partners 57 = .ok (.iaload, 1) := by decide +kernel
theorem dX8_partners_58 : decode cX8_partners 58 = .ok (.invokevirtual 147, 3) := by decide +kernel
theorem dX8_partners_61 : decode cX8_partners 61 = .ok (.aload_n 0, 1) := by decide +kernel
theorem dX8_partners_62 : decode cX8_partners 62 = .ok (.getfield 24, 3) := by decide +kernel
theorem dX8_partners_65 : decode cX8_partners 65 = .ok (.iload_n 1, 1) := by decide +kernel
theorem dX8_partners_66 : decode cX8_partners 66 = .ok (.iaload, 1) := by decide +kernel
theorem dX8_partners_67 : decode cX8_partners 67 = .ok (.if_icmp .eq 5, 3) := by decide +kernel
theorem dX8_partners_70 : decode cX8_partners 70 = .ok (.iconst 0, 1) := by decide +kernel
theorem dX8_partners_71 : decode cX8_partners 71 = .ok (.ireturn, 1) := by decide +kernel
theorem dX8_partners_72 : decode cX8_partners 72 = .ok (.aload_n 0, 1) := by decide +kernel
theorem dX8_partners_73 : decode cX8_partners 73 = .ok (.getfield 34, 3) := by decide +kernel
theorem dX8_partners_76 : decode cX8_partners 76 = .ok (.bipush 16, 2) := by decide +kernel
theorem dX8_partners_78 : decode cX8_partners 78 = .ok (.iload_n 1, 1) := by decide +kernel
theorem dX8_partners_79 : decode cX8_partners 79 = .ok (.imul, 1) := by decide +kernel
theorem dX8_partners_80 : decode cX8_partners 80 = .ok (.iload_n 2, 1) := by decide +kernel
theorem dX8_partners_81 : decode cX8_partners 81 = .ok (.iadd, 1) := by decide +kernel
theorem dX8_partners_82 : decode cX8_partners 82 = .ok (.iconst 1, 1) := by decide +kernel
theorem dX8_partners_83 : decode cX8_partners 83 = .ok (.bastore, 1) := by decide +kernel
theorem dX8_partners_84 : decode cX8_partners 84 = .ok (.aload_n 0, 1) := by decide +kernel
theorem dX8_partners_85 : decode cX8_partners 85 = .ok (.getfield 34, 3) := by decide +kernel
theorem dX8_partners_88 : decode cX8_partners 88 = .ok (.bipush 16, 2) := by decide +kernel
theorem dX8_partners_90 : decode cX8_partners 90 = .ok (.iload_n 2, 1) := by decide +kernel
theorem dX8_partners_91 : decode cX8_partners 91 = .ok (.imul, 1) := by decide +kernel
theorem dX8_partners_92 : decode cX8_partners 92 = .ok (.iload_n 1, 1) := by decide +kernel
theorem dX8_partners_93 : decode cX8_partners 93 = .ok (.iadd, 1) := by decide +kernel
theorem dX8_partners_94 : decode cX8_partners 94 = .ok (.iconst 1, 1) := by decide +kernel
theorem dX8_partners_95 : decode cX8_partners 95 = .ok (.bastore, 1) := by decide +kernel
theorem dX8_partners_96 : decode cX8_partners 96 = .ok (.iconst 1, 1) := by decide +kernel
theorem dX8_partners_97 : decode cX8_partners 97 = .ok (.ireturn, 1) := by decide +kernel
theorem dX8_isTreasure_0 : decode cX8_isTreasure 0 = .ok (.iload_n 1, 1) := by decide +kernel
theorem dX8_isTreasure_1 : decode cX8_isTreasure 1 = .ok (.ifCond .lt 15, 3) := by decide +kernel
theorem dX8_isTreasure_4 : decode cX8_isTreasure 4 = .ok (.iload_n 1, 1) := by decide +kernel
theorem dX8_isTreasure_5 : decode cX8_isTreasure 5 = .ok (.aload_n 0, 1) := by decide +kernel
theorem dX8_isTreasure_6 : decode cX8_isTreasure 6 = .ok (.getfield 150, 3) := by decide +kernel
theorem dX8_isTreasure_9 : decode cX8_isTreasure 9 = .ok (.if_icmp .ge 7, 3) := by decide +kernel
theorem dX8_isTreasure_12 : decode cX8_isTreasure 12 = .ok (.iconst 1, 1) := by decide +kernel
theorem dX8_isTreasure_13 : decode cX8_isTreasure 13 = .ok (.goto 4, 3) := by decide +kernel
theorem dX8_isTreasure_16 : decode cX8_isTreasure 16 = .ok (.iconst 0, 1) := by decide +kernel
theorem dX8_isTreasure_17 : decode cX8_isTreasure 17 = .ok (.ireturn, 1) := by decide +kernel
theorem dX8_tellsNews_0 : decode cX8_tellsNews 0 = .ok (.bipush 84, 2) := by decide +kernel
theorem dX8_tellsNews_2 : decode cX8_tellsNews 2 = .ok (.iload_n 1, 1) := by decide +kernel
theorem dX8_tellsNews_3 : decode cX8_tellsNews 3 = .ok (.imul, 1) := by decide +kernel
theorem dX8_tellsNews_4 : decode cX8_tellsNews 4 = .ok (.aload_n 0, 1) := by decide +kernel
theorem dX8_tellsNews_5 : decode cX8_tellsNews 5 = .ok (.getfield 58, 3) := by decide +kernel
theorem dX8_tellsNews_8 : decode cX8_tellsNews 8 = .ok (.iload_n 1, 1) := by decide +kernel
theorem dX8_tellsNews_9 : decode cX8_tellsNews 9 = .ok (.iaload, 1) := by decide +kernel
theorem dX8_tellsNews_10 : decode cX8_tellsNews 10 = .ok (.iadd, 1) := by decide +kernel
theorem dX8_tellsNews_11 : decode cX8_tellsNews 11 = .ok (.istore 4, 2) := by decide +kernel
theorem dX8_tellsNews_13 : decode cX8_tellsNews 13 = .ok (.aload_n 0, 1) := by decide +kernel
theorem dX8_tellsNews_14 : decode cX8_tellsNews 14 = .ok (.getfield 61, 3) := by decide +kernel
theorem dX8_tellsNews_17 : decode cX8_tellsNews 17 = .ok (.iload 4, 2) := by decide +kernel
theorem dX8_tellsNews_19 : decode cX8_tellsNews 19 = .ok (.aload_n 0, 1) := by decide +kernel
theorem dX8_tellsNews_20 : decode cX8_tellsNews 20 = .ok (.getfield 153, 3) := by decide +kernel
theorem dX8_tellsNews_23 : decode cX8_tellsNews 23 = .ok (.iastore, 1) := by decide +kernel
theorem dX8_tellsNews_24 : decode cX8_tellsNews 24 = .ok (.aload_n 0, 1) := by decide +kernel
theorem dX8_tellsNews_25 : decode cX8_tellsNews 25 = .ok (.getfield 64, 3) := by decide +kernel
theorem dX8_tellsNews_28 : decode cX8_tellsNews 28 = .ok (.iload 4, 2) := by decide +kernel
theorem dX8_tellsNews_30 : decode cX8_tellsNews 30 = .ok (.iload_n 2, 1) := by decide +kernel
theorem dX8_tellsNews_31 : decode cX8_tellsNews 31 = .ok (.iastore, 1) := by decide +kernel
theorem dX8_tellsNews_32 : decode cX8_tellsNews 32 = .ok (.aload_n 0, 1) := by decide +kernel
theorem dX8_tellsNews_33 : decode cX8_tellsNews 33 = .ok (.getfield 67, 3) := by decide +kernel
theorem dX8_tellsNews_36 : decode cX8_tellsNews 36 = .ok (.iload 4, 2) := by decide +kernel
theorem dX8_tellsNews_38 : decode cX8_tellsNews 38 = .ok (.iload_n 3, 1) := by decide +kernel
theorem dX8_tellsNews_39 : decode cX8_tellsNews 39 = .ok (.iastore, 1) := by decide +kernel
theorem dX8_tellsNews_40 : decode cX8_tellsNews 40 = .ok (.aload_n 0, 1) := by decide +kernel
theorem dX8_tellsNews_41 : decode cX8_tellsNews 41 = .ok (.getfield 58, 3) := by decide +kernel
theorem dX8_tellsNews_44 : decode cX8_tellsNews 44 = .ok (.iload_n 1, 1) := by decide +kernel
theorem dX8_tellsNews_45 : decode cX8_tellsNews 45 = .ok (.aload_n 0, 1) := by decide +kernel
theorem dX8_tellsNews_46 : decode cX8_tellsNews 46 = .ok (.getfield 58, 3) := by decide +kernel
theorem dX8_tellsNews_49 : decode cX8_tellsNews 49 = .ok (.iload_n 1, 1) := by decide +kernel
theorem dX8_tellsNews_50 : decode cX8_tellsNews 50 = .ok (.iaload, 1) := by decide +kernel
theorem dX8_tellsNews_51 : decode cX8_tellsNews 51 = .ok (.iconst 1, 1) := by decide +kernel
theorem dX8_tellsNews_52 : decode cX8_tellsNews 52 = .ok (.iadd, 1) := by decide +kernel
theorem dX8_tellsNews_53 : decode cX8_tellsNews 53 = .ok (.iastore, 1) := by decide +kernel
theorem dX8_tellsNews_54 : decode cX8_tellsNews 54 = .ok (.return_, 1) := by decide +kernel
theorem dX8_comesTo_0 : decode cX8_comesTo 0 = .ok (.aload_n 0, 1) := by decide +kernel
theorem dX8_comesTo_1 : decode cX8_comesTo 1 = .ok (.getfield 43, 3) := by decide +kernel
theorem dX8_comesTo_4 : decode cX8_comesTo 4 = .ok (.iload_n 1, 1) := by decide +kernel
theorem dX8_comesTo_5 : decode cX8_comesTo 5 = .ok (.iload_n 2, 1) := by decide +kernel
theorem dX8_comesTo_6 : decode cX8_comesTo 6 = .ok (.iastore, 1) := by decide +kernel
theorem dX8_comesTo_7 : decode cX8_comesTo 7 = .ok (.aload_n 0, 1) := by decide +kernel
theorem dX8_comesTo_8 : decode cX8_comesTo 8 = .ok (.getfield 46, 3) := by decide +kernel
theorem dX8_comesTo_11 : decode cX8_comesTo 11 = .ok (.iload_n 1, 1) := by decide +kernel
theorem dX8_comesTo_12 : decode cX8_comesTo 12 = .ok (.aload_n 0, 1) := by decide +kernel
theorem dX8_comesTo_13 : decode cX8_comesTo 13 = .ok (.getfield 153, 3) := by decide +kernel
theorem dX8_comesTo_16 : decode cX8_comesTo 16 = .ok (.iastore, 1) := by decide +kernel
theorem dX8_comesTo_17 : decode cX8_comesTo 17 = .ok (.aload_n 0, 1) := by decide +kernel
theorem dX8_comesTo_18 : decode cX8_comesTo 18 = .ok (.getfield 52, 3) := by decide +kernel
theorem dX8_comesTo_21 : decode cX8_comesTo 21 = .ok (.iload_n 1, 1) := by decide +kernel
theorem dX8_comesTo_22 : decode cX8_comesTo 22 = .ok (.iaload, 1) := by decide +kernel
theorem dX8_comesTo_23 : decode cX8_comesTo 23 = .ok (.bipush 64, 2) := by decide +kernel
theorem dX8_comesTo_25 : decode cX8_comesTo 25 = .ok (.if_icmp .ge 34, 3) := by decide +kernel
theorem dX8_comesTo_28 : decode cX8_comesTo 28 = .ok (.aload_n 0, 1) := by decide +kernel
theorem dX8_comesTo_29 : decode cX8_comesTo 29 = .ok (.getfield 55, 3) := by decide +kernel
theorem dX8_comesTo_32 : decode cX8_comesTo 32 = .ok (.bipush 64, 2) := by decide +kernel
theorem dX8_comesTo_34 : decode cX8_comesTo 34 = .ok (.iload_n 1, 1) := by decide +kernel
theorem dX8_comesTo_35 : decode cX8_comesTo 35 = .ok (.imul, 1) := by decide +kernel
theorem dX8_comesTo_36 : decode cX8_comesTo 36 = .ok (.aload_n 0, 1) := by decide +kernel
theorem dX8_comesTo_37 : decode cX8_comesTo 37 = .ok (.getfield 52, 3) := by decide +kernel
theorem dX8_comesTo_40 : decode cX8_comesTo 40 = .ok (.iload_n 1, 1) := by decide +kernel
theorem dX8_comesTo_41 : decode cX8_comesTo 41 = .ok (.iaload, 1) := by decide +kernel
theorem dX8_comesTo_42 : decode cX8_comesTo 42 = .ok (.iadd, 1) := by decide +kernel
theorem dX8_comesTo_43 : decode cX8_comesTo 43 = .ok (.iload_n 2, 1) := by decide +kernel
theorem dX8_comesTo_44 : decode cX8_comesTo 44 = .ok (.iastore, 1) := by decide +kernel
theorem dX8_comesTo_45 : decode cX8_comesTo 45 = .ok (.aload_n 0, 1) := by decide +kernel
theorem dX8_comesTo_46 : decode cX8_comesTo 46 = .ok (.getfield 52, 3) := by decide +kernel
theorem dX8_comesTo_49 : decode cX8_comesTo 49 = .ok (.iload_n 1, 1) := by decide +kernel
theorem dX8_comesTo_50 : decode cX8_comesTo 50 = .ok (.aload_n 0, 1) := by decide +kernel
theorem dX8_comesTo_51 : decode cX8_comesTo 51 = .ok (.getfield 52, 3) := by decide +kernel
theorem dX8_comesTo_54 : decode cX8_comesTo 54 = .ok (.iload_n 1, 1) := by decide +kernel
theorem dX8_comesTo_55 : decode cX8_comesTo 55 = .ok (.iaload, 1) := by decide +kernel
theorem dX8_comesTo_56 : decode cX8_comesTo 56 = .ok (.iconst 1, 1) := by decide +kernel
theorem dX8_comesTo_57 : decode cX8_comesTo 57 = .ok (.iadd, 1) := by decide +kernel
theorem dX8_comesTo_58 : decode cX8_comesTo 58 = .ok (.iastore, 1) := by decide +kernel
theorem dX8_comesTo_59 : decode cX8_comesTo 59 = .ok (.aload_n 0, 1) := by decide +kernel
theorem dX8_comesTo_60 : decode cX8_comesTo 60 = .ok (.iload_n 1, 1) := by decide +kernel
theorem dX8_comesTo_61 : decode cX8_comesTo 61 = .ok (.aload_n 0, 1) := by decide +kernel
theorem dX8_comesTo_62 : decode cX8_comesTo 62 = .ok (.getfield 24, 3) := by decide +kernel
theorem dX8_comesTo_65 : decode cX8_comesTo 65 = .ok (.iload_n 2, 1) := by decide +kernel
theorem dX8_comesTo_66 : decode cX8_comesTo 66 = .ok (.iaload, 1) := by decide +kernel
theorem dX8_comesTo_67 : decode cX8_comesTo 67 = .ok (.iload_n 2, 1) := by decide +kernel
theorem dX8_comesTo_68 : decode cX8_comesTo 68 = .ok (.invokevirtual 156, 3) := by decide +kernel
theorem dX8_comesTo_71 : decode cX8_comesTo 71 = .ok (.return_, 1) := by decide +kernel
theorem dX8_treasure_0 : decode cX8_treasure 0 = .ok (.iload_n 1, 1) := by decide +kernel
theorem dX8_treasure_1 : decode cX8_treasure 1 = .ok (.ifCond .lt 37, 3) := by decide +kernel
theorem dX8_treasure_4 : decode cX8_treasure 4 = .ok (.iload_n 1, 1) := by decide +kernel
theorem dX8_treasure_5 : decode cX8_treasure 5 = .ok (.iconst 1, 1) := by decide +kernel
theorem dX8_treasure_6 : decode cX8_treasure 6 = .ok (.if_icmp .gt 32, 3) := by decide +kernel
theorem dX8_treasure_9 : decode cX8_treasure 9 = .ok (.iload_n 2, 1) := by decide +kernel
theorem dX8_treasure_10 : decode cX8_treasure 10 = .ok (.iconst 1, 1) := by decide +kernel
theorem dX8_treasure_11 : decode cX8_treasure 11 = .ok (.if_icmp .lt 27, 3) := by decide +kernel
theorem dX8_treasure_14 : decode cX8_treasure 14 = .ok (.iload_n 2, 1) := by decide +kernel
theorem dX8_treasure_15 : decode cX8_treasure 15 = .ok (.sipush 999, 3) := by decide +kernel
theorem dX8_treasure_18 : decode cX8_treasure 18 = .ok (.if_icmp .gt 20, 3) := by decide +kernel
theorem dX8_treasure_21 : decode cX8_treasure 21 = .ok (.aload_n 0, 1) := by decide +kernel
theorem dX8_treasure_22 : decode cX8_treasure 22 = .ok (.iload_n 3, 1) := by decide +kernel
theorem dX8_treasure_23 : decode cX8_treasure 23 = .ok (.invokevirtual 144, 3) := by decide +kernel
theorem dX8_treasure_26 : decode cX8_treasure 26 = .ok (.ifCond .eq 12, 3) := by decide +kernel
theorem dX8_treasure_29 : decode cX8_treasure 29 = .ok (.aload_n 0, 1) := by decide +kernel
theorem dX8_treasure_30 : decode cX8_treasure 30 = .ok (.getfield 150, 3) := by decide +kernel
theorem dX8_treasure_33 : decode cX8_treasure 33 = .ok (.bipush 24, 2) := by decide +kernel
theorem dX8_treasure_35 : decode cX8_treasure 35 = .ok (.if_icmp .ne 5, 3) := by decide +kernel
theorem dX8_treasure_38 : decode cX8_treasure 38 = .ok (.iconst (-1), 1) := by decide +kernel
theorem dX8_treasure_39 : decode cX8_treasure 39 = .ok (.ireturn, 1) := by decide +kernel
theorem dX8_treasure_40 : decode cX8_treasure 40 = .ok (.aload_n 0, 1) := by decide +kernel
theorem dX8_treasure_41 : decode cX8_treasure 41 = .ok (.getfield 37, 3) := by decide +kernel
theorem dX8_treasure_44 : decode cX8_treasure 44 = .ok (.aload_n 0, 1) := by decide +kernel
theorem dX8_treasure_45 : decode cX8_treasure 45 = .ok (.getfield 150, 3) := by decide +kernel
theorem dX8_treasure_48 : decode cX8_treasure 48 = .ok (.iload_n 1, 1) := by decide +kernel
theorem dX8_treasure_49 : decode cX8_treasure 49 = .ok (.iastore, 1) := by decide +kernel
theorem dX8_treasure_50 : decode cX8_treasure 50 = .ok (.aload_n 0, 1) := by decide +kernel
theorem dX8_treasure_51 : decode cX8_treasure 51 = .ok (.getfield 40, 3) := by decide +kernel
theorem dX8_treasure_54 : decode cX8_treasure 54 = .ok (.aload_n 0, 1) := by decide +kernel
theorem dX8_treasure_55 : decode cX8_treasure 55 = .ok (.getfield 150, 3) := by decide +kernel
theorem dX8_treasure_58 : decode cX8_treasure 58 = .ok (.iload_n 2, 1) := by decide +kernel
theorem dX8_treasure_59 : decode cX8_treasure 59 = .ok (.iastore, 1) := by decide +kernel
theorem dX8_treasure_60 : decode cX8_treasure 60 = .ok (.aload_n 0, 1) := by decide +kernel
theorem dX8_treasure_61 : decode cX8_treasure 61 = .ok (.getfield 49, 3) := by decide +kernel
theorem dX8_treasure_64 : decode cX8_treasure 64 = .ok (.aload_n 0, 1) := by decide +kernel
theorem dX8_treasure_65 : decode cX8_treasure 65 = .ok (.getfield 150, 3) := by decide +kernel
theorem dX8_treasure_68 : decode cX8_treasure 68 = .ok (.iconst (-1), 1) := by decide +kernel
theorem dX8_treasure_69 : decode cX8_treasure 69 = .ok (.iastore, 1) := by decide +kernel
theorem dX8_treasure_70 : decode cX8_treasure 70 = .ok (.aload_n 0, 1) := by decide +kernel
theorem dX8_treasure_71 : decode cX8_treasure 71 = .ok (.aload_n 0, 1) := by decide +kernel
theorem dX8_treasure_72 : decode cX8_treasure 72 = .ok (.getfield 150, 3) := by decide +kernel
theorem dX8_treasure_75 : decode cX8_treasure 75 = .ok (.iconst 1, 1) := by decide +kernel
theorem dX8_treasure_76 : decode cX8_treasure 76 = .ok (.iadd, 1) := by decide +kernel
theorem dX8_treasure_77 : decode cX8_treasure 77 = .ok (.putfield 150, 3) := by decide +kernel
theorem dX8_treasure_80 : decode cX8_treasure 80 = .ok (.aload_n 0, 1) := by decide +kernel
theorem dX8_treasure_81 : decode cX8_treasure 81 = .ok (.aload_n 0, 1) := by decide +kernel
theorem dX8_treasure_82 : decode cX8_treasure 82 = .ok (.getfield 150, 3) := by decide +kernel
theorem dX8_treasure_85 : decode cX8_treasure 85 = .ok (.iconst 1, 1) := by decide +kernel
theorem dX8_treasure_86 : decode cX8_treasure 86 = .ok (.isub, 1) := by decide +kernel
theorem dX8_treasure_87 : decode cX8_treasure 87 = .ok (.iload_n 3, 1) := by decide +kernel
theorem dX8_treasure_88 : decode cX8_treasure 88 = .ok (.invokevirtual 160, 3) := by decide +kernel
theorem dX8_treasure_91 : decode cX8_treasure 91 = .ok (.aload_n 0, 1) := by decide +kernel
theorem dX8_treasure_92 : decode cX8_treasure 92 = .ok (.getfield 150, 3) := by decide +kernel
theorem dX8_treasure_95 : decode cX8_treasure 95 = .ok (.iconst 1, 1) := by decide +kernel
theorem dX8_treasure_96 : decode cX8_treasure 96 = .ok (.isub, 1) := by decide +kernel
theorem dX8_treasure_97 : decode cX8_treasure 97 = .ok (.ireturn, 1) := by decide +kernel
theorem dX8_apart_0 : decode cX8_apart 0 = .ok (.iload_n 1, 1) := by decide +kernel
theorem dX8_apart_1 : decode cX8_apart 1 = .ok (.iload_n 2, 1) := by decide +kernel
theorem dX8_apart_2 : decode cX8_apart 2 = .ok (.if_icmp .le 9, 3) := by decide +kernel
theorem dX8_apart_5 : decode cX8_apart 5 = .ok (.iload_n 1, 1) := by decide +kernel
theorem dX8_apart_6 : decode cX8_apart 6 = .ok (.iload_n 2, 1) := by decide +kernel
theorem dX8_apart_7 : decode cX8_apart 7 = .ok (.isub, 1) := by decide +kernel
theorem dX8_apart_8 : decode cX8_apart 8 = .ok (.goto 6, 3) := by decide +kernel
theorem dX8_apart_11 : decode cX8_apart 11 = .ok (.iload_n 2, 1) := by decide +kernel
theorem dX8_apart_12 : decode cX8_apart 12 = .ok (.iload_n 1, 1) := by decide +kernel
theorem dX8_apart_13 : decode cX8_apart 13 = .ok (.isub, 1) := by decide +kernel
theorem dX8_apart_14 : decode cX8_apart 14 = .ok (.istore_n 3, 1) := by decide +kernel
theorem dX8_apart_15 : decode cX8_apart 15 = .ok (.iload_n 3, 1) := by decide +kernel
theorem dX8_apart_16 : decode cX8_apart 16 = .ok (.aload_n 0, 1) := by decide +kernel
theorem dX8_apart_17 : decode cX8_apart 17 = .ok (.getfield 20, 3) := by decide +kernel
theorem dX8_apart_20 : decode cX8_apart 20 = .ok (.iload_n 3, 1) := by decide +kernel
theorem dX8_apart_21 : decode cX8_apart 21 = .ok (.isub, 1) := by decide +kernel
theorem dX8_apart_22 : decode cX8_apart 22 = .ok (.if_icmp .ge 7, 3) := by decide +kernel
theorem dX8_apart_25 : decode cX8_apart 25 = .ok (.iload_n 3, 1) := by decide +kernel
theorem dX8_apart_26 : decode cX8_apart 26 = .ok (.goto 9, 3) := by decide +kernel
theorem dX8_apart_29 : decode cX8_apart 29 = .ok (.aload_n 0, 1) := by decide +kernel
theorem dX8_apart_30 : decode cX8_apart 30 = .ok (.getfield 20, 3) := by decide +kernel
theorem dX8_apart_33 : decode cX8_apart 33 = .ok (.iload_n 3, 1) := by decide +kernel
theorem dX8_apart_34 : decode cX8_apart 34 = .ok (.isub, 1) := by decide +kernel
theorem dX8_apart_35 : decode cX8_apart 35 = .ok (.ireturn, 1) := by decide +kernel
theorem dX8_known_0 : decode cX8_known 0 = .ok (.iload_n 1, 1) := by decide +kernel
theorem dX8_known_1 : decode cX8_known 1 = .ok (.ifCond .lt 19, 3) := by decide +kernel
theorem dX8_known_4 : decode cX8_known 4 = .ok (.iload_n 1, 1) := by decide +kernel
theorem dX8_known_5 : decode cX8_known 5 = .ok (.aload_n 0, 1) := by decide +kernel
theorem dX8_known_6 : decode cX8_known 6 = .ok (.getfield 20, 3) := by decide +kernel
theorem dX8_known_9 : decode cX8_known 9 = .ok (.if_icmp .ge 11, 3) := by decide +kernel
theorem dX8_known_12 : decode cX8_known 12 = .ok (.aload_n 0, 1) := by decide +kernel
theorem dX8_known_13 : decode cX8_known 13 = .ok (.iload_n 2, 1) := by decide +kernel
theorem dX8_known_14 : decode cX8_known 14 = .ok (.invokevirtual 164, 3) := by decide +kernel
theorem dX8_known_17 : decode cX8_known 17 = .ok (.ifCond .ne 5, 3) := by decide +kernel
theorem dX8_known_20 : decode cX8_known 20 = .ok (.iconst (-1), 1) := by decide +kernel
theorem dX8_known_21 : decode cX8_known 21 = .ok (.ireturn, 1) := by decide +kernel
theorem dX8_known_22 : decode cX8_known 22 = .ok (.iconst (-1), 1) := by decide +kernel
theorem dX8_known_23 : decode cX8_known 23 = .ok (.istore_n 3, 1) := by decide +kernel
theorem dX8_known_24 : decode cX8_known 24 = .ok (.bipush 84, 2) := by decide +kernel
theorem dX8_known_26 : decode cX8_known 26 = .ok (.iload_n 2, 1) := by decide +kernel
theorem dX8_known_27 : decode cX8_known 27 = .ok (.imul, 1) := by decide +kernel
theorem dX8_known_28 : decode cX8_known 28 = .ok (.istore 4, 2) := by decide +kernel
theorem dX8_known_30 : decode cX8_known 30 = .ok (.iload 4, 2) := by decide +kernel
theorem dX8_known_32 : decode cX8_known 32 = .ok (.bipush 84, 2) := by decide +kernel
theorem dX8_known_34 : decode cX8_known 34 = .ok (.iload_n 2, 1) := by decide +kernel
theorem dX8_known_35 : decode cX8_known 35 = .ok (.imul, 1) := by decide +kernel
theorem dX8_known_36 : decode cX8_known 36 = .ok (.aload_n 0, 1) := by decide +kernel
theorem dX8_known_37 : decode cX8_known 37 = .ok (.getfield 58, 3) := by decide +kernel
theorem dX8_known_40 : decode cX8_known 40 = .ok (.iload_n 2, 1) := by decide +kernel
theorem dX8_known_41 : decode cX8_known 41 = .ok (.iaload, 1) := by decide +kernel
theorem dX8_known_42 : decode cX8_known 42 = .ok (.iadd, 1) := by decide +kernel
theorem dX8_known_43 : decode cX8_known 43 = .ok (.if_icmp .ge 44, 3) := by decide +kernel
theorem dX8_known_46 : decode cX8_known 46 = .ok (.aload_n 0, 1) := by decide +kernel
theorem dX8_known_47 : decode cX8_known 47 = .ok (.getfield 61, 3) := by decide +kernel
theorem dX8_known_50 : decode cX8_known 50 = .ok (.iload 4, 2) := by decide +kernel
theorem dX8_known_52 : decode cX8_known 52 = .ok (.iaload, 1) := by decide +kernel
theorem dX8_known_53 : decode cX8_known 53 = .ok (.aload_n 0, 1) := by decide +kernel
theorem dX8_known_54 : decode cX8_known 54 = .ok (.aload_n 0, 1) := by decide +kernel
theorem dX8_known_55 : decode cX8_known 55 = .ok (.getfield 64, 3) := by decide +kernel
theorem dX8_known_58 : decode cX8_known 58 = .ok (.iload 4, 2) := by decide +kernel
theorem dX8_known_60 : decode cX8_known 60 = .ok (.iaload, 1) := by decide +kernel
theorem dX8_known_61 : decode cX8_known 61 = .ok (.iload_n 1, 1) := by decide +kernel
theorem dX8_known_62 : decode cX8_known 62 = .ok (.invokevirtual 167, 3) := by decide +kernel
theorem dX8_known_65 : decode cX8_known 65 = .ok (.iadd, 1) := by decide +kernel
theorem dX8_known_66 : decode cX8_known 66 = .ok (.aload_n 0, 1) := by decide +kernel
theorem dX8_known_67 : decode cX8_known 67 = .ok (.getfield 153, 3) := by decide +kernel
theorem dX8_known_70 : decode cX8_known 70 = .ok (.if_icmp .gt 11, 3) := by decide +kernel
theorem dX8_known_73 : decode cX8_known 73 = .ok (.aload_n 0, 1) := by decide +kernel
theorem dX8_known_74 : decode cX8_known 74 = .ok (.getfield 67, 3) := by decide +kernel
theorem dX8_known_77 : decode cX8_known 77 = .ok (.iload 4, 2) := by decide +kernel
theorem dX8_known_79 : decode cX8_known 79 = .ok (.iaload, 1) := by decide +kernel
theorem dX8_known_80 : decode cX8_known 80 = .ok (.istore_n 3, 1) := by decide +kernel
theorem dX8_known_81 : decode cX8_known 81 = .ok (.iinc 4 1, 3) := by decide +kernel
theorem dX8_known_84 : decode cX8_known 84 = .ok (.goto (-54), 3) := by decide +kernel
theorem dX8_known_87 : decode cX8_known 87 = .ok (.iload_n 3, 1) := by decide +kernel
theorem dX8_known_88 : decode cX8_known 88 = .ok (.ireturn, 1) := by decide +kernel
theorem dX8_way_0 : decode cX8_way 0 = .ok (.aload_n 0, 1) := by decide +kernel
theorem dX8_way_1 : decode cX8_way 1 = .ok (.iload_n 1, 1) := by decide +kernel
theorem dX8_way_2 : decode cX8_way 2 = .ok (.invokevirtual 164, 3) := by decide +kernel
theorem dX8_way_5 : decode cX8_way 5 = .ok (.ifCond .eq 31, 3) := by decide +kernel
theorem dX8_way_8 : decode cX8_way 8 = .ok (.iload_n 2, 1) := by decide +kernel
theorem dX8_way_9 : decode cX8_way 9 = .ok (.ifCond .lt 27, 3) := by decide +kernel
theorem dX8_way_12 : decode cX8_way 12 = .ok (.iload_n 2, 1) := by decide +kernel
theorem dX8_way_13 : decode cX8_way 13 = .ok (.aload_n 0, 1) := by decide +kernel
theorem dX8_way_14 : decode cX8_way 14 = .ok (.getfield 52, 3) := by decide +kernel
theorem dX8_way_17 : decode cX8_way 17 = .ok (.iload_n 1, 1) := by decide +kernel
theorem dX8_way_18 : decode cX8_way 18 = .ok (.iaload, 1) := by decide +kernel
theorem dX8_way_19 : decode cX8_way 19 = .ok (.if_icmp .ge 17, 3) := by decide +kernel
theorem dX8_way_22 : decode cX8_way 22 = .ok (.aload_n 0, 1) := by decide +kernel
theorem dX8_way_23 : decode cX8_way 23 = .ok (.getfield 55, 3) := by decide +kernel
theorem dX8_way_26 : decode cX8_way 26 = .ok (.bipush 64, 2) := by decide +kernel
theorem dX8_way_28 : decode cX8_way 28 = .ok (.iload_n 1, 1) := by decide +kernel
theorem dX8_way_29 : decode cX8_way 29 = .ok (.imul, 1) := by decide +kernel
theorem dX8_way_30 : decode cX8_way 30 = .ok (.iload_n 2, 1) := by decide +kernel
theorem dX8_way_31 : decode cX8_way 31 = .ok (.iadd, 1) := by decide +kernel
theorem dX8_way_32 : decode cX8_way 32 = .ok (.iaload, 1) := by decide +kernel
theorem dX8_way_33 : decode cX8_way 33 = .ok (.goto 4, 3) := by decide +kernel
theorem dX8_way_36 : decode cX8_way 36 = .ok (.iconst (-1), 1) := by decide +kernel
theorem dX8_way_37 : decode cX8_way 37 = .ok (.ireturn, 1) := by decide +kernel
theorem dX8_isOpen_0 : decode cX8_isOpen 0 = .ok (.aload_n 0, 1) := by decide +kernel
theorem dX8_isOpen_1 : decode cX8_isOpen 1 = .ok (.getfield 88, 3) := by decide +kernel
theorem dX8_isOpen_4 : decode cX8_isOpen 4 = .ok (.iload_n 1, 1) := by decide +kernel
theorem dX8_isOpen_5 : decode cX8_isOpen 5 = .ok (.iaload, 1) := by decide +kernel
theorem dX8_isOpen_6 : decode cX8_isOpen 6 = .ok (.iconst (-1), 1) := by decide +kernel
theorem dX8_isOpen_7 : decode cX8_isOpen 7 = .ok (.if_icmp .ne 7, 3) := by decide +kernel
theorem dX8_isOpen_10 : decode cX8_isOpen 10 = .ok (.iconst 1, 1) := by decide +kernel
theorem dX8_isOpen_11 : decode cX8_isOpen 11 = .ok (.goto 4, 3) := by decide +kernel
theorem dX8_isOpen_14 : decode cX8_isOpen 14 = .ok (.iconst 0, 1) := by decide +kernel
theorem dX8_isOpen_15 : decode cX8_isOpen 15 = .ok (.ireturn, 1) := by decide +kernel
theorem dX8_isLate_0 : decode cX8_isLate 0 = .ok (.aload_n 0, 1) := by decide +kernel
theorem dX8_isLate_1 : decode cX8_isLate 1 = .ok (.iload_n 1, 1) := by decide +kernel
theorem dX8_isLate_2 : decode cX8_isLate 2 = .ok (.invokevirtual 171, 3) := by decide +kernel
theorem dX8_isLate_5 : decode cX8_isLate 5 = .ok (.ifCond .eq 20, 3) := by decide +kernel
theorem dX8_isLate_8 : decode cX8_isLate 8 = .ok (.aload_n 0, 1) := by decide +kernel
theorem dX8_isLate_9 : decode cX8_isLate 9 = .ok (.getfield 153, 3) := by decide +kernel
theorem dX8_isLate_12 : decode cX8_isLate 12 = .ok (.aload_n 0, 1) := by decide +kernel
theorem dX8_isLate_13 : decode cX8_isLate 13 = .ok (.getfield 82, 3) := by decide +kernel
theorem dX8_isLate_16 : decode cX8_isLate 16 = .ok (.iload_n 1, 1) := by decide +kernel
theorem dX8_isLate_17 : decode cX8_isLate 17 = .ok (.iaload, 1) := by decide +kernel
theorem dX8_isLate_18 : decode cX8_isLate 18 = .ok (.if_icmp .le 7, 3) := by decide +kernel
theorem dX8_isLate_21 : decode cX8_isLate 21 = .ok (.iconst 1, 1) := by decide +kernel
theorem dX8_isLate_22 : decode cX8_isLate 22 = .ok (.goto 4, 3) := by decide +kernel
theorem dX8_isLate_25 : decode cX8_isLate 25 = .ok (.iconst 0, 1) := by decide +kernel
theorem dX8_isLate_26 : decode cX8_isLate 26 = .ok (.ireturn, 1) := by decide +kernel
theorem dX8_quarrels_0 : decode cX8_quarrels 0 = .ok (.iconst 0, 1) := by decide +kernel
theorem dX8_quarrels_1 : decode cX8_quarrels 1 = .ok (.istore_n 3, 1) := by decide +kernel
theorem dX8_quarrels_2 : decode cX8_quarrels 2 = .ok (.iload_n 3, 1) := by decide +kernel
theorem dX8_quarrels_3 : decode cX8_quarrels 3 = .ok (.aload_n 0, 1) := by decide +kernel
theorem dX8_quarrels_4 : decode cX8_quarrels 4 = .ok (.getfield 174, 3) := by decide +kernel
theorem dX8_quarrels_7 : decode cX8_quarrels 7 = .ok (.if_icmp .ge 59, 3) := by decide +kernel
theorem dX8_quarrels_10 : decode cX8_quarrels 10 = .ok (.aload_n 0, 1) := by decide +kernel
theorem dX8_quarrels_11 : decode cX8_quarrels 11 = .ok (.iload_n 3, 1) := by decide +kernel
theorem dX8_quarrels_12 : decode cX8_quarrels 12 = .ok (.invokevirtual 177, 3) := by decide +kernel
theorem dX8_quarrels_15 : decode cX8_quarrels 15 = .ok (.ifCond .eq 45, 3) := by decide +kernel
theorem dX8_quarrels_18 : decode cX8_quarrels 18 = .ok (.aload_n 0, 1) := by decide +kernel
theorem dX8_quarrels_19 : decode cX8_quarrels 19 = .ok (.getfield 70, 3) := by decide +kernel
theorem dX8_quarrels_22 : decode cX8_quarrels 22 = .ok (.iload_n 3, 1) := by decide +kernel
theorem dX8_quarrels_23 : decode cX8_quarrels 23 = .ok (.iaload, 1) := by decide +kernel
theorem dX8_quarrels_24 : decode cX8_quarrels 24 = .ok (.iload_n 1, 1) := by decide +kernel
theorem dX8_quarrels_25 : decode cX8_quarrels 25 = .ok (.if_icmp .ne 13, 3) := by decide +kernel
theorem dX8_quarrels_28 : decode cX8_quarrels 28 = .ok (.aload_n 0, 1) := by decide +kernel
theorem dX8_quarrels_29 : decode cX8_quarrels 29 = .ok (.getfield 73, 3) := by decide +kernel
theorem dX8_quarrels_32 : decode cX8_quarrels 32 = .ok (.iload_n 3, 1) := by decide +kernel
theorem dX8_quarrels_33 : decode cX8_quarrels 33 = .ok (.iaload, 1) := by decide +kernel
theorem dX8_quarrels_34 : decode cX8_quarrels 34 = .ok (.iload_n 2, 1) := by decide +kernel
theorem dX8_quarrels_35 : decode cX8_quarrels 35 = .ok (.if_icmp .eq 23, 3) := by decide +kernel
theorem dX8_quarrels_38 : decode cX8_quarrels 38 = .ok (.aload_n 0, 1) := by decide +kernel
theorem dX8_quarrels_39 : decode cX8_quarrels 39 = .ok (.getfield 70, 3) := by decide +kernel
theorem dX8_quarrels_42 : decode cX8_quarrels 42 = .ok (.iload_n 3, 1) := by decide +kernel
theorem dX8_quarrels_43 : decode cX8_quarrels 43 = .ok (.iaload, 1) := by decide +kernel
theorem dX8_quarrels_44 : decode cX8_quarrels 44 = .ok (.iload_n 2, 1) := by decide +kernel
theorem dX8_quarrels_45 : decode cX8_quarrels 45 = .ok (.if_icmp .ne 15, 3) := by decide +kernel
theorem dX8_quarrels_48 : decode cX8_quarrels 48 = .ok (.aload_n 0, 1) := by decide +kernel
theorem dX8_quarrels_49 : decode cX8_quarrels 49 = .ok (.getfield 73, 3) := by decide +kernel
theorem dX8_quarrels_52 : decode cX8_quarrels 52 = .ok (.iload_n 3, 1) := by decide +kernel
theorem dX8_quarrels_53 : decode cX8_quarrels 53 = .ok (.iaload, 1) := by decide +kernel
theorem dX8_quarrels_54 : decode cX8_quarrels 54 = .ok (.iload_n 1, 1) := by decide +kernel
theorem dX8_quarrels_55 : decode cX8_quarrels 55 = .ok (.if_icmp .ne 5, 3) := by decide +kernel
theorem dX8_quarrels_58 : decode cX8_quarrels 58 = .ok (.iconst 1, 1) := by decide +kernel
theorem dX8_quarrels_59 : decode cX8_quarrels 59 = .ok (.ireturn, 1) := by decide +kernel
theorem dX8_quarrels_60 : decode cX8_quarrels 60 = .ok (.iinc 3 1, 3) := by decide +kernel
theorem dX8_quarrels_63 : decode cX8_quarrels 63 = .ok (.goto (-61), 3) := by decide +kernel
theorem dX8_quarrels_66 : decode cX8_quarrels 66 = .ok (.iconst 0, 1) := by decide +kernel
theorem dX8_quarrels_67 : decode cX8_quarrels 67 = .ok (.ireturn, 1) := by decide +kernel
theorem dX8_goesRound_0 : decode cX8_goesRound 0 = .ok (.aload_n 0, 1) := by decide +kernel
theorem dX8_goesRound_1 : decode cX8_goesRound 1 = .ok (.getfield 37, 3) := by decide +kernel
theorem dX8_goesRound_4 : decode cX8_goesRound 4 = .ok (.iload_n 3, 1) := by decide +kernel
theorem dX8_goesRound_5 : decode cX8_goesRound 5 = .ok (.iaload, 1) := by decide +kernel
theorem dX8_goesRound_6 : decode cX8_goesRound 6 = .ok (.ifCond .ne 30, 3) := by decide +kernel
theorem dX8_goesRound_9 : decode cX8_goesRound 9 = .ok (.aload_n 0, 1) := by decide +kernel
theorem dX8_goesRound_10 : decode cX8_goesRound 10 = .ok (.aload_n 0, 1) := by decide +kernel
theorem dX8_goesRound_11 : decode cX8_goesRound 11 = .ok (.getfield 24, 3) := by decide +kernel
theorem dX8_goesRound_14 : decode cX8_goesRound 14 = .ok (.iload_n 1, 1) := by decide +kernel
theorem dX8_goesRound_15 : decode cX8_goesRound 15 = .ok (.iaload, 1) := by decide +kernel
theorem dX8_goesRound_16 : decode cX8_goesRound 16 = .ok (.invokevirtual 147, 3) := by decide +kernel
theorem dX8_goesRound_19 : decode cX8_goesRound 19 = .ok (.aload_n 0, 1) := by decide +kernel
theorem dX8_goesRound_20 : decode cX8_goesRound 20 = .ok (.getfield 24, 3) := by decide +kernel
theorem dX8_goesRound_23 : decode cX8_goesRound 23 = .ok (.iload_n 2, 1) := by decide +kernel
theorem dX8_goesRound_24 : decode cX8_goesRound 24 = .ok (.iaload, 1) := by decide +kernel
theorem dX8_goesRound_25 : decode cX8_goesRound 25 = .ok (.if_icmp .ne 7, 3) := by decide +kernel
theorem dX8_goesRound_28 : decode cX8_goesRound 28 = .ok (.iconst 1, 1) := by decide +kernel
theorem dX8_goesRound_29 : decode cX8_goesRound 29 = .ok (.goto 31, 3) := by decide +kernel
theorem dX8_goesRound_32 : decode cX8_goesRound 32 = .ok (.iconst 0, 1) := by decide +kernel
theorem dX8_goesRound_33 : decode cX8_goesRound 33 = .ok (.goto 27, 3) := by decide +kernel
theorem dX8_goesRound_36 : decode cX8_goesRound 36 = .ok (.aload_n 0, 1) := by decide +kernel
theorem dX8_goesRound_37 : decode cX8_goesRound 37 = .ok (.aload_n 0, 1) := by decide +kernel
theorem dX8_goesRound_38 : decode cX8_goesRound 38 = .ok (.getfield 24, 3) := by decide +kernel
theorem dX8_goesRound_41 : decode cX8_goesRound 41 = .ok (.iload_n 2, 1) := by decide +kernel
theorem dX8_goesRound_42 : decode cX8_goesRound 42 = .ok (.iaload, 1) := by decide +kernel
theorem dX8_goesRound_43 : decode cX8_goesRound 43 = .ok (.invokevirtual 147, 3) := by decide +kernel
theorem dX8_goesRound_46 : decode cX8_goesRound 46 = .ok (.aload_n 0, 1) := by decide +kernel
theorem dX8_goesRound_47 : decode cX8_goesRound 47 = .ok (.getfield 24, 3) := by decide +kernel
theorem dX8_goesRound_50 : decode cX8_goesRound 50 = .ok (.iload_n 1, 1) := by decide +kernel
theorem dX8_goesRound_51 : decode cX8_goesRound 51 = .ok (.iaload, 1) := by decide +kernel
theorem dX8_goesRound_52 : decode cX8_goesRound 52 = .ok (.if_icmp .ne 7, 3) := by decide +kernel
theorem dX8_goesRound_55 : decode cX8_goesRound 55 = .ok (.iconst 1, 1) := by decide +kernel
theorem dX8_goesRound_56 : decode cX8_goesRound 56 = .ok (.goto 4, 3) := by decide +kernel
theorem dX8_goesRound_59 : decode cX8_goesRound 59 = .ok (.iconst 0, 1) := by decide +kernel
theorem dX8_goesRound_60 : decode cX8_goesRound 60 = .ok (.ireturn, 1) := by decide +kernel
theorem dX8_isOther_0 : decode cX8_isOther 0 = .ok (.aload_n 0, 1) := by decide +kernel
theorem dX8_isOther_1 : decode cX8_isOther 1 = .ok (.iload_n 1, 1) := by decide +kernel
theorem dX8_isOther_2 : decode cX8_isOther 2 = .ok (.invokevirtual 171, 3) := by decide +kernel
theorem dX8_isOther_5 : decode cX8_isOther 5 = .ok (.ifCond .eq 45, 3) := by decide +kernel
theorem dX8_isOther_8 : decode cX8_isOther 8 = .ok (.aload_n 0, 1) := by decide +kernel
theorem dX8_isOther_9 : decode cX8_isOther 9 = .ok (.getfield 70, 3) := by decide +kernel
theorem dX8_isOther_12 : decode cX8_isOther 12 = .ok (.iload_n 1, 1) := by decide +kernel
theorem dX8_isOther_13 : decode cX8_isOther 13 = .ok (.iaload, 1) := by decide +kernel
theorem dX8_isOther_14 : decode cX8_isOther 14 = .ok (.iload_n 2, 1) := by decide +kernel
theorem dX8_isOther_15 : decode cX8_isOther 15 = .ok (.if_icmp .ne 35, 3) := by decide +kernel
theorem dX8_isOther_18 : decode cX8_isOther 18 = .ok (.aload_n 0, 1) := by decide +kernel
theorem dX8_isOther_19 : decode cX8_isOther 19 = .ok (.getfield 73, 3) := by decide +kernel
theorem dX8_isOther_22 : decode cX8_isOther 22 = .ok (.iload_n 1, 1) := by decide +kernel
theorem dX8_isOther_23 : decode cX8_isOther 23 = .ok (.iaload, 1) := by decide +kernel
theorem dX8_isOther_24 : decode cX8_isOther 24 = .ok (.iload_n 3, 1) := by decide +kernel
theorem dX8_isOther_25 : decode cX8_isOther 25 = .ok (.if_icmp .ne 25, 3) := by decide +kernel
theorem dX8_isOther_28 : decode cX8_isOther 28 = .ok (.aload_n 0, 1) := by decide +kernel
theorem dX8_isOther_29 : decode cX8_isOther 29 = .ok (.getfield 76, 3) := by decide +kernel
theorem dX8_isOther_32 : decode cX8_isOther 32 = .ok (.iload_n 1, 1) := by decide +kernel
theorem dX8_isOther_33 : decode cX8_isOther 33 = .ok (.iaload, 1) := by decide +kernel
theorem dX8_isOther_34 : decode cX8_isOther 34 = .ok (.iconst 1, 1) := by decide +kernel
theorem dX8_isOther_35 : decode cX8_isOther 35 = .ok (.aload_n 0, 1) := by decide +kernel
theorem dX8_isOther_36 : decode cX8_isOther 36 = .ok (.getfield 37, 3) := by decide +kernel
theorem dX8_isOther_39 : decode cX8_isOther 39 = .ok (.iload 4, 2) := by decide +kernel
theorem dX8_isOther_41 : decode cX8_isOther 41 = .ok (.iaload, 1) := by decide +kernel
theorem dX8_isOther_42 : decode cX8_isOther 42 = .ok (.isub, 1) := by decide +kernel
theorem dX8_isOther_43 : decode cX8_isOther 43 = .ok (.if_icmp .ne 7, 3) := by decide +kernel
theorem dX8_isOther_46 : decode cX8_isOther 46 = .ok (.iconst 1, 1) := by decide +kernel
theorem dX8_isOther_47 : decode cX8_isOther 47 = .ok (.goto 4, 3) := by decide +kernel
theorem dX8_isOther_50 : decode cX8_isOther 50 = .ok (.iconst 0, 1) := by decide +kernel
theorem dX8_isOther_51 : decode cX8_isOther 51 = .ok (.ireturn, 1) := by decide +kernel
theorem dX8_give_0 : decode cX8_give 0 = .ok (.aload_n 0, 1) := by decide +kernel
theorem dX8_give_1 : decode cX8_give 1 = .ok (.iload_n 1, 1) := by decide +kernel
theorem dX8_give_2 : decode cX8_give 2 = .ok (.invokevirtual 144, 3) := by decide +kernel
theorem dX8_give_5 : decode cX8_give 5 = .ok (.ifCond .eq 77, 3) := by decide +kernel
theorem dX8_give_8 : decode cX8_give 8 = .ok (.aload_n 0, 1) := by decide +kernel
theorem dX8_give_9 : decode cX8_give 9 = .ok (.iload_n 2, 1) := by decide +kernel
theorem dX8_give_10 : decode cX8_give 10 = .ok (.invokevirtual 144, 3) := by decide +kernel
theorem dX8_give_13 : decode cX8_give 13 = .ok (.ifCond .eq 69, 3) := by decide +kernel
theorem dX8_give_16 : decode cX8_give 16 = .ok (.aload_n 0, 1) := by decide +kernel
theorem dX8_give_17 : decode cX8_give 17 = .ok (.iload_n 3, 1) := by decide +kernel
theorem dX8_give_18 : decode cX8_give 18 = .ok (.invokevirtual 164, 3) := by decide +kernel
theorem dX8_give_21 : decode cX8_give 21 = .ok (.ifCond .eq 61, 3) := by decide +kernel
theorem dX8_give_24 : decode cX8_give 24 = .ok (.aload_n 0, 1) := by decide +kernel
theorem dX8_give_25 : decode cX8_give 25 = .ok (.getfield 43, 3) := by decide +kernel
theorem dX8_give_28 : decode cX8_give 28 = .ok (.iload_n 3, 1) := by decide +kernel
theorem dX8_give_29 : decode cX8_give 29 = .ok (.iaload, 1) := by decide +kernel
theorem dX8_give_30 : decode cX8_give 30 = .ok (.iload_n 1, 1) := by decide +kernel
theorem dX8_give_31 : decode cX8_give 31 = .ok (.if_icmp .ne 51, 3) := by decide +kernel
theorem dX8_give_34 : decode cX8_give 34 = .ok (.aload_n 0, 1) := by decide +kernel
theorem dX8_give_35 : decode cX8_give 35 = .ok (.getfield 34, 3) := by decide +kernel
theorem dX8_give_38 : decode cX8_give 38 = .ok (.bipush 16, 2) := by decide +kernel
theorem dX8_give_40 : decode cX8_give 40 = .ok (.iload_n 1, 1) := by decide +kernel
theorem dX8_give_41 : decode cX8_give 41 = .ok (.imul, 1) := by decide +kernel
theorem dX8_give_42 : decode cX8_give 42 = .ok (.iload_n 2, 1) := by decide +kernel
theorem dX8_give_43 : decode cX8_give 43 = .ok (.iadd, 1) := by decide +kernel
theorem dX8_give_44 : decode cX8_give 44 = .ok (.baload, 1) := by decide +kernel
theorem dX8_give_45 : decode cX8_give 45 = .ok (.ifCond .eq 37, 3) := by decide +kernel
theorem dX8_give_48 : decode cX8_give 48 = .ok (.aload_n 0, 1) := by decide +kernel
theorem dX8_give_49 : decode cX8_give 49 = .ok (.iload_n 1, 1) := by decide +kernel
theorem dX8_give_50 : decode cX8_give 50 = .ok (.iload_n 2, 1) := by decide +kernel
theorem dX8_give_51 : decode cX8_give 51 = .ok (.iload_n 3, 1) := by decide +kernel
theorem dX8_give_52 : decode cX8_give 52 = .ok (.invokevirtual 180, 3) := by decide +kernel
theorem dX8_give_55 : decode cX8_give 55 = .ok (.ifCond .eq 27, 3) := by decide +kernel
theorem dX8_give_58 : decode cX8_give 58 = .ok (.aload_n 0, 1) := by decide +kernel
theorem dX8_give_59 : decode cX8_give 59 = .ok (.getfield 49, 3) := by decide +kernel
theorem dX8_give_62 : decode cX8_give 62 = .ok (.iload_n 3, 1) := by decide +kernel
theorem dX8_give_63 : decode cX8_give 63 = .ok (.iaload, 1) := by decide +kernel
theorem dX8_give_64 : decode cX8_give 64 = .ok (.aload_n 0, 1) := by decide +kernel
theorem dX8_give_65 : decode cX8_give 65 = .ok (.getfield 153, 3) := by decide +kernel
theorem dX8_give_68 : decode cX8_give 68 = .ok (.if_icmp .eq 14, 3) := by decide +kernel
theorem dX8_give_71 : decode cX8_give 71 = .ok (.aload_n 0, 1) := by decide +kernel
theorem dX8_give_72 : decode cX8_give 72 = .ok (.getfield 52, 3) := by decide +kernel
theorem dX8_give_75 : decode cX8_give 75 = .ok (.iload_n 3, 1) := by decide +kernel
theorem dX8_give_76 : decode cX8_give 76 = .ok (.iaload, 1) := by decide +kernel
theorem dX8_give_77 : decode cX8_give 77 = .ok (.bipush 64, 2) := by decide +kernel
theorem dX8_give_79 : decode cX8_give 79 = .ok (.if_icmp .ne 5, 3) := by decide +kernel
theorem dX8_give_82 : decode cX8_give 82 = .ok (.iconst (-1), 1) := by decide +kernel
theorem dX8_give_83 : decode cX8_give 83 = .ok (.ireturn, 1) := by decide +kernel
theorem dX8_give_84 : decode cX8_give 84 = .ok (.iconst (-1), 1) := by decide +kernel
theorem dX8_give_85 : decode cX8_give 85 = .ok (.istore 4, 2) := by decide +kernel
theorem dX8_give_87 : decode cX8_give 87 = .ok (.iconst (-1), 1) := by decide +kernel
theorem dX8_give_88 : decode cX8_give 88 = .ok (.istore 5, 2) := by decide +kernel
theorem dX8_give_90 : decode cX8_give 90 = .ok (.iconst 0, 1) := by decide +kernel
theorem dX8_give_91 : decode cX8_give 91 = .ok (.istore 6, 2) := by decide +kernel
theorem dX8_give_93 : decode cX8_give 93 = .ok (.iload 6, 2) := by decide +kernel
theorem dX8_give_95 : decode cX8_give 95 = .ok (.aload_n 0, 1) := by decide +kernel
theorem dX8_give_96 : decode cX8_give 96 = .ok (.getfield 174, 3) := by decide +kernel
theorem dX8_give_99 : decode cX8_give 99 = .ok (.if_icmp .ge 82, 3) := by decide +kernel
theorem dX8_give_102 : decode cX8_give 102 = .ok (.aload_n 0, 1) := by decide +kernel
theorem dX8_give_103 : decode cX8_give 103 = .ok (.iload 6, 2) := by decide +kernel
theorem dX8_give_105 : decode cX8_give 105 = .ok (.iload_n 1, 1) := by decide +kernel
theorem dX8_give_106 : decode cX8_give 106 = .ok (.iload_n 2, 1) := by decide +kernel
theorem dX8_give_107 : decode cX8_give 107 = .ok (.iload_n 3, 1) := by decide +kernel
theorem dX8_give_108 : decode cX8_give 108 = .ok (.invokevirtual 184, 3) := by decide +kernel
theorem dX8_give_111 : decode cX8_give 111 = .ok (.ifCond .ne 6, 3) := by decide +kernel
theorem dX8_give_114 : decode cX8_give 114 = .ok (.goto 61, 3) := by decide +kernel
theorem dX8_give_117 : decode cX8_give 117 = .ok (.iload 4, 2) := by decide +kernel
theorem dX8_give_119 : decode cX8_give 119 = .ok (.iconst (-1), 1) := by decide +kernel
theorem dX8_give_120 : decode cX8_give 120 = .ok (.if_icmp .ne 8, 3) := by decide +kernel
theorem dX8_give_123 : decode cX8_give 123 = .ok (.iload 6, 2) := by decide +kernel
theorem dX8_give_125 : decode cX8_give 125 = .ok (.goto 5, 3) := by decide +kernel
theorem dX8_give_128 : decode cX8_give 128 = .ok (.iload 4, 2) := by decide +kernel
theorem dX8_give_130 : decode cX8_give 130 = .ok (.istore 4, 2) := by decide +kernel
theorem dX8_give_132 : decode cX8_give 132 = .ok (.aload_n 0, 1) := by decide +kernel
theorem dX8_give_133 : decode cX8_give 133 = .ok (.getfield 79, 3) := by decide +kernel
theorem dX8_give_136 : decode cX8_give 136 = .ok (.iload 6, 2) := by decide +kernel
theorem dX8_give_138 : decode cX8_give 138 = .ok (.iaload, 1) := by decide +kernel
theorem dX8_give_139 : decode cX8_give 139 = .ok (.aload_n 0, 1) := by decide +kernel
theorem dX8_give_140 : decode cX8_give 140 = .ok (.getfield 40, 3) := by decide +kernel
theorem dX8_give_143 : decode cX8_give 143 = .ok (.iload_n 3, 1) := by decide +kernel
theorem dX8_give_144 : decode cX8_give 144 = .ok (.iaload, 1) := by decide +kernel
theorem dX8_give_145 : decode cX8_give 145 = .ok (.if_icmp .gt 30, 3) := by decide +kernel
theorem dX8_give_148 : decode cX8_give 148 = .ok (.iload 5, 2) := by decide +kernel
theorem dX8_give_150 : decode cX8_give 150 = .ok (.iconst (-1), 1) := by decide +kernel
theorem dX8_give_151 : decode cX8_give 151 = .ok (.if_icmp .eq 20, 3) := by decide +kernel
theorem dX8_give_154 : decode cX8_give 154 = .ok (.aload_n 0, 1) := by decide +kernel
theorem dX8_give_155 : decode cX8_give 155 = .ok (.getfield 79, 3) := by decide +kernel
theorem dX8_give_158 : decode cX8_give 158 = .ok (.iload 6, 2) := by decide +kernel
theorem dX8_give_160 : decode cX8_give 160 = .ok (.iaload, 1) := by decide +kernel
theorem dX8_give_161 : decode cX8_give 161 = .ok (.aload_n 0, 1) := by decide +kernel
theorem dX8_give_162 : decode cX8_give 162 = .ok (.getfield 79, 3) := by decide +kernel
theorem dX8_give_165 : decode cX8_give 165 = .ok (.iload 5, 2) := by decide +kernel
theorem dX8_give_167 : decode cX8_give 167 = .ok (.iaload, 1) := by decide +kernel
theorem dX8_give_168 : decode cX8_give 168 = .ok (.if_icmp .le 7, 3) := by decide +kernel
theorem dX8_give_171 : decode cX8_give 171 = .ok (.iload 6, 2) := by decide +kernel
theorem dX8_give_173 : decode cX8_give 173 = .ok (.istore 5, 2) := by decide +kernel
theorem dX8_give_175 : decode cX8_give 175 = .ok (.iinc 6 1, 3) := by decide +kernel
theorem dX8_give_178 : decode cX8_give 178 = .ok (.goto (-85), 3) := by decide +kernel
theorem dX8_give_181 : decode cX8_give 181 = .ok (.iload 5, 2) := by decide +kernel
theorem dX8_give_183 : decode cX8_give 183 = .ok (.iconst (-1), 1) := by decide +kernel
theorem dX8_give_184 : decode cX8_give 184 = .ok (.if_icmp .ne 30, 3) := by decide +kernel
theorem dX8_give_187 : decode cX8_give 187 = .ok (.aload_n 0, 1) := by decide +kernel
theorem dX8_give_188 : decode cX8_give 188 = .ok (.iload_n 1, 1) := by decide +kernel
theorem dX8_give_189 : decode cX8_give 189 = .ok (.iload_n 2, 1) := by decide +kernel
theorem dX8_give_190 : decode cX8_give 190 = .ok (.invokevirtual 188, 3) := by decide +kernel
theorem dX8_give_193 : decode cX8_give 193 = .ok (.ifCond .ne 19, 3) := by decide +kernel
theorem dX8_give_196 : decode cX8_give 196 = .ok (.iload 4, 2) := by decide +kernel
theorem dX8_give_198 : decode cX8_give 198 = .ok (.iconst (-1), 1) := by decide +kernel
theorem dX8_give_199 : decode cX8_give 199 = .ok (.if_icmp .ne 15, 3) := by decide +kernel
theorem dX8_give_202 : decode cX8_give 202 = .ok (.aload_n 0, 1) := by decide +kernel
theorem dX8_give_203 : decode cX8_give 203 = .ok (.getfield 174, 3) := by decide +kernel
theorem dX8_give_206 : decode cX8_give 206 = .ok (.sipush 200, 3) := by decide +kernel
theorem dX8_give_209 : decode cX8_give 209 = .ok (.if_icmp .ne 5, 3) := by decide +kernel
theorem dX8_give_212 : decode cX8_give 212 = .ok (.iconst (-1), 1) := by decide +kernel
theorem dX8_give_213 : decode cX8_give 213 = .ok (.ireturn, 1) := by decide +kernel
theorem dX8_give_214 : decode cX8_give 214 = .ok (.iload 5, 2) := by decide +kernel
theorem dX8_give_216 : decode cX8_give 216 = .ok (.iconst (-1), 1) := by decide +kernel
theorem dX8_give_217 : decode cX8_give 217 = .ok (.if_icmp .eq 7, 3) := by decide +kernel
theorem dX8_give_220 : decode cX8_give 220 = .ok (.iconst 1, 1) := by decide +kernel
theorem dX8_give_221 : decode cX8_give 221 = .ok (.goto 14, 3) := by decide +kernel
theorem dX8_give_224 : decode cX8_give 224 = .ok (.iload 4, 2) := by decide +kernel
theorem dX8_give_226 : decode cX8_give 226 = .ok (.iconst (-1), 1) := by decide +kernel
theorem dX8_give_227 : decode cX8_give 227 = .ok (.if_icmp .eq 7, 3) := by decide +kernel
theorem dX8_give_230 : decode cX8_give 230 = .ok (.iconst 2, 1) := by decide +kernel
theorem dX8_give_231 : decode cX8_give 231 = .ok (.goto 4, 3) := by decide +kernel
theorem dX8_give_234 : decode cX8_give 234 = .ok (.iconst 0, 1) := by decide +kernel
theorem dX8_give_235 : decode cX8_give 235 = .ok (.istore 6, 2) := by decide +kernel
theorem dX8_give_237 : decode cX8_give 237 = .ok (.iload 6, 2) := by decide +kernel
theorem dX8_give_239 : decode cX8_give 239 = .ok (.ifCond .ne 129, 3) := by decide +kernel
theorem dX8_give_242 : decode cX8_give 242 = .ok (.aload_n 0, 1) := by decide +kernel
theorem dX8_give_243 : decode cX8_give 243 = .ok (.getfield 70, 3) := by decide +kernel
theorem dX8_give_246 : decode cX8_give 246 = .ok (.aload_n 0, 1) := by decide +kernel
theorem dX8_give_247 : decode cX8_give 247 = .ok (.getfield 174, 3) := by decide +kernel
theorem dX8_give_250 : decode cX8_give 250 = .ok (.iload_n 2, 1) := by decide +kernel
theorem dX8_give_251 : decode cX8_give 251 = .ok (.iastore, 1) := by decide +kernel
theorem dX8_give_252 : decode cX8_give 252 = .ok (.aload_n 0, 1) := by decide +kernel
theorem dX8_give_253 : decode cX8_give 253 = .ok (.getfield 73, 3) := by decide +kernel
theorem dX8_give_256 : decode cX8_give 256 = .ok (.aload_n 0, 1) := by decide +kernel
theorem dX8_give_257 : decode cX8_give 257 = .ok (.getfield 174, 3) := by decide +kernel
theorem dX8_give_260 : decode cX8_give 260 = .ok (.iload_n 1, 1) := by decide +kernel
theorem dX8_give_261 : decode cX8_give 261 = .ok (.iastore, 1) := by decide +kernel
theorem dX8_give_262 : decode cX8_give 262 = .ok (.aload_n 0, 1) := by decide +kernel
theorem dX8_give_263 : decode cX8_give 263 = .ok (.getfield 76, 3) := by decide +kernel
theorem dX8_give_266 : decode cX8_give 266 = .ok (.aload_n 0, 1) := by decide +kernel
theorem dX8_give_267 : decode cX8_give 267 = .ok (.getfield 174, 3) := by decide +kernel
theorem dX8_give_270 : decode cX8_give 270 = .ok (.aload_n 0, 1) := by decide +kernel
theorem dX8_give_271 : decode cX8_give 271 = .ok (.getfield 37, 3) := by decide +kernel
theorem dX8_give_274 : decode cX8_give 274 = .ok (.iload_n 3, 1) := by decide +kernel
theorem dX8_give_275 : decode cX8_give 275 = .ok (.iaload, 1) := by decide +kernel
theorem dX8_give_276 : decode cX8_give 276 = .ok (.iastore, 1) := by decide +kernel
theorem dX8_give_277 : decode cX8_give 277 = .ok (.aload_n 0, 1) := by decide +kernel
theorem dX8_give_278 : decode cX8_give 278 = .ok (.getfield 79, 3) := by decide +kernel
theorem dX8_give_281 : decode cX8_give 281 = .ok (.aload_n 0, 1) := by decide +kernel
theorem dX8_give_282 : decode cX8_give 282 = .ok (.getfield 174, 3) := by decide +kernel
theorem dX8_give_285 : decode cX8_give 285 = .ok (.aload_n 0, 1) := by decide +kernel
theorem dX8_give_286 : decode cX8_give 286 = .ok (.getfield 40, 3) := by decide +kernel
theorem dX8_give_289 : decode cX8_give 289 = .ok (.iload_n 3, 1) := by decide +kernel
theorem dX8_give_290 : decode cX8_give 290 = .ok (.iaload, 1) := by decide +kernel
theorem dX8_give_291 : decode cX8_give 291 = .ok (.aload_n 0, 1) := by decide +kernel
theorem dX8_give_292 : decode cX8_give 292 = .ok (.getfield 13, 3) := by decide +kernel
theorem dX8_give_295 : decode cX8_give 295 = .ok (.iconst 0, 1) := by decide +kernel
theorem dX8_give_296 : decode cX8_give 296 = .ok (.iaload, 1) := by decide +kernel
theorem dX8_give_297 : decode cX8_give 297 = .ok (.imul, 1) := by decide +kernel
theorem dX8_give_298 : decode cX8_give 298 = .ok (.bipush 99, 2) := by decide +kernel
theorem dX8_give_300 : decode cX8_give 300 = .ok (.iadd, 1) := by decide +kernel
theorem dX8_give_301 : decode cX8_give 301 = .ok (.bipush 100, 2) := by decide +kernel
theorem dX8_give_303 : decode cX8_give 303 = .ok (.idiv, 1) := by decide +kernel
theorem dX8_give_304 : decode cX8_give 304 = .ok (.iastore, 1) := by decide +kernel
theorem dX8_give_305 : decode cX8_give 305 = .ok (.aload_n 0, 1) := by decide +kernel
theorem dX8_give_306 : decode cX8_give 306 = .ok (.getfield 82, 3) := by decide +kernel
theorem dX8_give_309 : decode cX8_give 309 = .ok (.aload_n 0, 1) := by decide +kernel
theorem dX8_give_310 : decode cX8_give 310 = .ok (.getfield 174, 3) := by decide +kernel
theorem dX8_give_313 : decode cX8_give 313 = .ok (.aload_n 0, 1) := by decide +kernel
theorem dX8_give_314 : decode cX8_give 314 = .ok (.getfield 153, 3) := by decide +kernel
theorem dX8_give_317 : decode cX8_give 317 = .ok (.aload_n 0, 1) := by decide +kernel
theorem dX8_give_318 : decode cX8_give 318 = .ok (.getfield 13, 3) := by decide +kernel
theorem dX8_give_321 : decode cX8_give 321 = .ok (.iconst 1, 1) := by decide +kernel
theorem dX8_give_322 : decode cX8_give 322 = .ok (.iaload, 1) := by decide +kernel
theorem dX8_give_323 : decode cX8_give 323 = .ok (.iadd, 1) := by decide +kernel
theorem dX8_give_324 : decode cX8_give 324 = .ok (.iastore, 1) := by decide +kernel
theorem dX8_give_325 : decode cX8_give 325 = .ok (.aload_n 0, 1) := by decide +kernel
theorem dX8_give_326 : decode cX8_give 326 = .ok (.getfield 85, 3) := by decide +kernel
theorem dX8_give_329 : decode cX8_give 329 = .ok (.aload_n 0, 1) := by decide +kernel
theorem dX8_give_330 : decode cX8_give 330 = .ok (.getfield 174, 3) := by decide +kernel
theorem dX8_give_333 : decode cX8_give 333 = .ok (.iload_n 3, 1) := by decide +kernel
theorem dX8_give_334 : decode cX8_give 334 = .ok (.iastore, 1) := by decide +kernel
theorem dX8_give_335 : decode cX8_give 335 = .ok (.aload_n 0, 1) := by decide +kernel
theorem dX8_give_336 : decode cX8_give 336 = .ok (.getfield 88, 3) := by decide +kernel
theorem dX8_give_339 : decode cX8_give 339 = .ok (.aload_n 0, 1) := by decide +kernel
theorem dX8_give_340 : decode cX8_give 340 = .ok (.getfield 174, 3) := by decide +kernel
theorem dX8_give_343 : decode cX8_give 343 = .ok (.iconst (-1), 1) := by decide +kernel
theorem dX8_give_344 : decode cX8_give 344 = .ok (.iastore, 1) := by decide +kernel
theorem dX8_give_345 : decode cX8_give 345 = .ok (.aload_n 0, 1) := by decide +kernel
theorem dX8_give_346 : decode cX8_give 346 = .ok (.getfield 91, 3) := by decide +kernel
theorem dX8_give_349 : decode cX8_give 349 = .ok (.aload_n 0, 1) := by decide +kernel
theorem dX8_give_350 : decode cX8_give 350 = .ok (.getfield 174, 3) := by decide +kernel
theorem dX8_give_353 : decode cX8_give 353 = .ok (.iconst 0, 1) := by decide +kernel
theorem dX8_give_354 : decode cX8_give 354 = .ok (.bastore, 1) := by decide +kernel
theorem dX8_give_355 : decode cX8_give 355 = .ok (.aload_n 0, 1) := by decide +kernel
theorem dX8_give_356 : decode cX8_give 356 = .ok (.aload_n 0, 1) := by decide +kernel
theorem dX8_give_357 : decode cX8_give 357 = .ok (.getfield 174, 3) := by decide +kernel
theorem dX8_give_360 : decode cX8_give 360 = .ok (.iconst 1, 1) := by decide +kernel
theorem dX8_give_361 : decode cX8_give 361 = .ok (.iadd, 1) := by decide +kernel
theorem dX8_give_362 : decode cX8_give 362 = .ok (.putfield 174, 3) := by decide +kernel
theorem dX8_give_365 : decode cX8_give 365 = .ok (.goto 59, 3) := by decide +kernel
theorem dX8_give_368 : decode cX8_give 368 = .ok (.iload 6, 2) := by decide +kernel
theorem dX8_give_370 : decode cX8_give 370 = .ok (.iconst 1, 1) := by decide +kernel
theorem dX8_give_371 : decode cX8_give 371 = .ok (.if_icmp .ne 14, 3) := by decide +kernel
theorem dX8_give_374 : decode cX8_give 374 = .ok (.aload_n 0, 1) := by decide +kernel
theorem dX8_give_375 : decode cX8_give 375 = .ok (.getfield 88, 3) := by decide +kernel
theorem dX8_give_378 : decode cX8_give 378 = .ok (.iload 5, 2) := by decide +kernel
theorem dX8_give_380 : decode cX8_give 380 = .ok (.iload_n 3, 1) := by decide +kernel
theorem dX8_give_381 : decode cX8_give 381 = .ok (.iastore, 1) := by decide +kernel
theorem dX8_give_382 : decode cX8_give 382 = .ok (.goto 42, 3) := by decide +kernel
theorem dX8_give_385 : decode cX8_give 385 = .ok (.aload_n 0, 1) := by decide +kernel
theorem dX8_give_386 : decode cX8_give 386 = .ok (.getfield 91, 3) := by decide +kernel
theorem dX8_give_389 : decode cX8_give 389 = .ok (.iload 4, 2) := by decide +kernel
theorem dX8_give_391 : decode cX8_give 391 = .ok (.baload, 1) := by decide +kernel
theorem dX8_give_392 : decode cX8_give 392 = .ok (.ifCond .ne 32, 3) := by decide +kernel
theorem dX8_give_395 : decode cX8_give 395 = .ok (.aload_n 0, 1) := by decide +kernel
theorem dX8_give_396 : decode cX8_give 396 = .ok (.getfield 91, 3) := by decide +kernel
theorem dX8_give_399 : decode cX8_give 399 = .ok (.iload 4, 2) := by decide +kernel
theorem dX8_give_401 : decode cX8_give 401 = .ok (.iconst 1, 1) := by decide +kernel
theorem dX8_give_402 : decode cX8_give 402 = .ok (.bastore, 1) := by decide +kernel
theorem dX8_give_403 : decode cX8_give 403 = .ok (.aload_n 0, 1) := by decide +kernel
theorem dX8_give_404 : decode cX8_give 404 = .ok (.getfield 82, 3) := by decide +kernel
theorem dX8_give_407 : decode cX8_give 407 = .ok (.iload 4, 2) := by decide +kernel
theorem dX8_give_409 : decode cX8_give 409 = .ok (.aload_n 0, 1) := by decide +kernel
theorem dX8_give_410 : decode cX8_give 410 = .ok (.getfield 82, 3) := by decide +kernel
theorem dX8_give_413 : decode cX8_give 413 = .ok (.iload 4, 2) := by decide +kernel
theorem dX8_give_415 : decode cX8_give 415 = .ok (.iaload, 1) := by decide +kernel
theorem dX8_give_416 : decode cX8_give 416 = .ok (.aload_n 0, 1) := by decide +kernel
theorem dX8_give_417 : decode cX8_give 417 = .ok (.getfield 13, 3) := by decide +kernel
theorem dX8_give_420 : decode cX8_give 420 = .ok (.iconst 2, 1) := by decide +kernel
theorem dX8_give_421 : decode cX8_give 421 = .ok (.iaload, 1) := by decide +kernel
theorem dX8_give_422 : decode cX8_give 422 = .ok (.iadd, 1) := by decide +kernel
theorem dX8_give_423 : decode cX8_give 423 = .ok (.iastore, 1) := by decide +kernel
theorem dX8_give_424 : decode cX8_give 424 = .ok (.aload_n 0, 1) := by decide +kernel
theorem dX8_give_425 : decode cX8_give 425 = .ok (.getfield 27, 3) := by decide +kernel
theorem dX8_give_428 : decode cX8_give 428 = .ok (.iload_n 1, 1) := by decide +kernel
theorem dX8_give_429 : decode cX8_give 429 = .ok (.aload_n 0, 1) := by decide +kernel
theorem dX8_give_430 : decode cX8_give 430 = .ok (.getfield 27, 3) := by decide +kernel
theorem dX8_give_433 : decode cX8_give 433 = .ok (.iload_n 1, 1) := by decide +kernel
theorem dX8_give_434 : decode cX8_give 434 = .ok (.iaload, 1) := by decide +kernel
theorem dX8_give_435 : decode cX8_give 435 = .ok (.iload 6, 2) := by decide +kernel
theorem dX8_give_437 : decode cX8_give 437 = .ok (.iconst 2, 1) := by decide +kernel
theorem dX8_give_438 : decode cX8_give 438 = .ok (.if_icmp .ne 14, 3) := by decide +kernel
theorem dX8_give_441 : decode cX8_give 441 = .ok (.aload_n 0, 1) := by decide +kernel
theorem dX8_give_442 : decode cX8_give 442 = .ok (.getfield 40, 3) := by decide +kernel
theorem dX8_give_445 : decode cX8_give 445 = .ok (.iload_n 3, 1) := by decide +kernel
theorem dX8_give_446 : decode cX8_give 446 = .ok (.iaload, 1) := by decide +kernel
theorem dX8_give_447 : decode cX8_give 447 = .ok (.iconst 2, 1) := by decide +kernel
theorem dX8_give_448 : decode cX8_give 448 = .ok (.idiv, 1) := by decide +kernel
theorem dX8_give_449 : decode cX8_give 449 = .ok (.goto 9, 3) := by decide +kernel
theorem dX8_give_452 : decode cX8_give 452 = .ok (.aload_n 0, 1) := by decide +kernel
theorem dX8_give_453 : decode cX8_give 453 = .ok (.getfield 40, 3) := by decide +kernel
theorem dX8_give_456 : decode cX8_give 456 = .ok (.iload_n 3, 1) := by decide +kernel
theorem dX8_give_457 : decode cX8_give 457 = .ok (.iaload, 1) := by decide +kernel
theorem dX8_give_458 : decode cX8_give 458 = .ok (.iadd, 1) := by decide +kernel
theorem dX8_give_459 : decode cX8_give 459 = .ok (.iastore, 1) := by decide +kernel
theorem dX8_give_460 : decode cX8_give 460 = .ok (.aload_n 0, 1) := by decide +kernel
theorem dX8_give_461 : decode cX8_give 461 = .ok (.getfield 49, 3) := by decide +kernel
theorem dX8_give_464 : decode cX8_give 464 = .ok (.iload_n 3, 1) := by decide +kernel
theorem dX8_give_465 : decode cX8_give 465 = .ok (.aload_n 0, 1) := by decide +kernel
theorem dX8_give_466 : decode cX8_give 466 = .ok (.getfield 153, 3) := by decide +kernel
theorem dX8_give_469 : decode cX8_give 469 = .ok (.iastore, 1) := by decide +kernel
theorem dX8_give_470 : decode cX8_give 470 = .ok (.aload_n 0, 1) := by decide +kernel
theorem dX8_give_471 : decode cX8_give 471 = .ok (.iload_n 3, 1) := by decide +kernel
theorem dX8_give_472 : decode cX8_give 472 = .ok (.iload_n 2, 1) := by decide +kernel
theorem dX8_give_473 : decode cX8_give 473 = .ok (.invokevirtual 160, 3) := by decide +kernel
theorem dX8_give_476 : decode cX8_give 476 = .ok (.iload 6, 2) := by decide +kernel
theorem dX8_give_478 : decode cX8_give 478 = .ok (.ireturn, 1) := by decide +kernel
theorem dX8_season_0 : decode cX8_season 0 = .ok (.aload_n 0, 1) := by decide +kernel
theorem dX8_season_1 : decode cX8_season 1 = .ok (.getfield 153, 3) := by decide +kernel
theorem dX8_season_4 : decode cX8_season 4 = .ok (.sipush 1000, 3) := by decide +kernel
theorem dX8_season_7 : decode cX8_season 7 = .ok (.if_icmp .ne 5, 3) := by decide +kernel
theorem dX8_season_10 : decode cX8_season 10 = .ok (.iconst (-1), 1) := by decide +kernel
theorem dX8_season_11 : decode cX8_season 11 = .ok (.ireturn, 1) := by decide +kernel
theorem dX8_season_12 : decode cX8_season 12 = .ok (.aload_n 0, 1) := by decide +kernel
theorem dX8_season_13 : decode cX8_season 13 = .ok (.aload_n 0, 1) := by decide +kernel
theorem dX8_season_14 : decode cX8_season 14 = .ok (.getfield 153, 3) := by decide +kernel
theorem dX8_season_17 : decode cX8_season 17 = .ok (.iconst 1, 1) := by decide +kernel
theorem dX8_season_18 : decode cX8_season 18 = .ok (.iadd, 1) := by decide +kernel
theorem dX8_season_19 : decode cX8_season 19 = .ok (.putfield 153, 3) := by decide +kernel
theorem dX8_season_22 : decode cX8_season 22 = .ok (.iconst 0, 1) := by decide +kernel
theorem dX8_season_23 : decode cX8_season 23 = .ok (.istore_n 1, 1) := by decide +kernel
theorem dX8_season_24 : decode cX8_season 24 = .ok (.iload_n 1, 1) := by decide +kernel
theorem dX8_season_25 : decode cX8_season 25 = .ok (.aload_n 0, 1) := by decide +kernel
theorem dX8_season_26 : decode cX8_season 26 = .ok (.getfield 150, 3) := by decide +kernel
theorem dX8_season_29 : decode cX8_season 29 = .ok (.if_icmp .ge 77, 3) := by decide +kernel
theorem dX8_season_32 : decode cX8_season 32 = .ok (.aload_n 0, 1) := by decide +kernel
theorem dX8_season_33 : decode cX8_season 33 = .ok (.getfield 43, 3) := by decide +kernel
theorem dX8_season_36 : decode cX8_season 36 = .ok (.iload_n 1, 1) := by decide +kernel
theorem dX8_season_37 : decode cX8_season 37 = .ok (.iaload, 1) := by decide +kernel
theorem dX8_season_38 : decode cX8_season 38 = .ok (.iconst (-1), 1) := by decide +kernel
theorem dX8_season_39 : decode cX8_season 39 = .ok (.if_icmp .eq 61, 3) := by decide +kernel
theorem dX8_season_42 : decode cX8_season 42 = .ok (.aload_n 0, 1) := by decide +kernel
theorem dX8_season_43 : decode cX8_season 43 = .ok (.getfield 153, 3) := by decide +kernel
theorem dX8_season_46 : decode cX8_season 46 = .ok (.aload_n 0, 1) := by decide +kernel
theorem dX8_season_47 : decode cX8_season 47 = .ok (.getfield 46, 3) := by decide +kernel
theorem dX8_season_50 : decode cX8_season 50 = .ok (.iload_n 1, 1) := by decide +kernel
theorem dX8_season_51 : decode cX8_season 51 = .ok (.iaload, 1) := by decide +kernel
theorem dX8_season_52 : decode cX8_season 52 = .ok (.isub, 1) := by decide +kernel
theorem dX8_season_53 : decode cX8_season 53 = .ok (.aload_n 0, 1) := by decide +kernel
theorem dX8_season_54 : decode cX8_season 54 = .ok (.getfield 13, 3) := by decide +kernel
theorem dX8_season_57 : decode cX8_season 57 = .ok (.iconst 3, 1) := by decide +kernel
theorem dX8_season_58 : decode cX8_season 58 = .ok (.iaload, 1) := by decide +kernel
theorem dX8_season_59 : decode cX8_season 59 = .ok (.if_icmp .gt 6, 3) := by decide +kernel
theorem dX8_season_62 : decode cX8_season 62 = .ok (.goto 38, 3) := by decide +kernel
theorem dX8_season_65 : decode cX8_season 65 = .ok (.aload_n 0, 1) := by decide +kernel
theorem dX8_season_66 : decode cX8_season 66 = .ok (.getfield 27, 3) := by decide +kernel
theorem dX8_season_69 : decode cX8_season 69 = .ok (.aload_n 0, 1) := by decide +kernel
theorem dX8_season_70 : decode cX8_season 70 = .ok (.getfield 43, 3) := by decide +kernel
theorem dX8_season_73 : decode cX8_season 73 = .ok (.iload_n 1, 1) := by decide +kernel
theorem dX8_season_74 : decode cX8_season 74 = .ok (.iaload, 1) := by decide +kernel
theorem dX8_season_75 : decode cX8_season 75 = .ok (.aload_n 0, 1) := by decide +kernel
theorem dX8_season_76 : decode cX8_season 76 = .ok (.getfield 27, 3) := by decide +kernel
theorem dX8_season_79 : decode cX8_season 79 = .ok (.aload_n 0, 1) := by decide +kernel
theorem dX8_season_80 : decode cX8_season 80 = .ok (.getfield 43, 3) := by decide +kernel
theorem dX8_season_83 : decode cX8_season 83 = .ok (.iload_n 1, 1) := by decide +kernel
theorem dX8_season_84 : decode cX8_season 84 = .ok (.iaload, 1) := by decide +kernel
theorem dX8_season_85 : decode cX8_season 85 = .ok (.iaload, 1) := by decide +kernel
theorem dX8_season_86 : decode cX8_season 86 = .ok (.aload_n 0, 1) := by decide +kernel
theorem dX8_season_87 : decode cX8_season 87 = .ok (.getfield 40, 3) := by decide +kernel
theorem dX8_season_90 : decode cX8_season 90 = .ok (.iload_n 1, 1) := by decide +kernel
theorem dX8_season_91 : decode cX8_season 91 = .ok (.iaload, 1) := by decide +kernel
theorem dX8_season_92 : decode cX8_season 92 = .ok (.bipush 9, 2) := by decide +kernel
theorem dX8_season_94 : decode cX8_season 94 = .ok (.iadd, 1) := by decide +kernel
theorem dX8_season_95 : decode cX8_season 95 = .ok (.bipush 10, 2) := by decide +kernel
theorem dX8_season_97 : decode cX8_season 97 = .ok (.idiv, 1) := by decide +kernel
theorem dX8_season_98 : decode cX8_season 98 = .ok (.isub, 1) := by decide +kernel
theorem dX8_season_99 : decode cX8_season 99 = .ok (.iastore, 1) := by decide +kernel
theorem dX8_season_100 : decode cX8_season 100 = .ok (.iinc 1 1, 3) := by decide +kernel
theorem dX8_season_103 : decode cX8_season 103 = .ok (.goto (-79), 3) := by decide +kernel
theorem dX8_season_106 : decode cX8_season 106 = .ok (.aload_n 0, 1) := by decide +kernel
theorem dX8_season_107 : decode cX8_season 107 = .ok (.getfield 153, 3) := by decide +kernel
theorem dX8_season_110 : decode cX8_season 110 = .ok (.ireturn, 1) := by decide +kernel
theorem dX8_dies_0 : decode cX8_dies 0 = .ok (.aload_n 0, 1) := by decide +kernel
theorem dX8_dies_1 : decode cX8_dies 1 = .ok (.iload_n 1, 1) := by decide +kernel
theorem dX8_dies_2 : decode cX8_dies 2 = .ok (.invokevirtual 144, 3) := by decide +kernel
theorem dX8_dies_5 : decode cX8_dies 5 = .ok (.ifCond .eq 31, 3) := by decide +kernel
theorem dX8_dies_8 : decode cX8_dies 8 = .ok (.aload_n 0, 1) := by decide +kernel
theorem dX8_dies_9 : decode cX8_dies 9 = .ok (.iload_n 2, 1) := by decide +kernel
theorem dX8_dies_10 : decode cX8_dies 10 = .ok (.invokevirtual 144, 3) := by decide +kernel
theorem dX8_dies_13 : decode cX8_dies 13 = .ok (.ifCond .eq 23, 3) := by decide +kernel
theorem dX8_dies_16 : decode cX8_dies 16 = .ok (.iload_n 1, 1) := by decide +kernel
theorem dX8_dies_17 : decode cX8_dies 17 = .ok (.iload_n 2, 1) := by decide +kernel
theorem dX8_dies_18 : decode cX8_dies 18 = .ok (.if_icmp .eq 18, 3) := by decide +kernel
theorem dX8_dies_21 : decode cX8_dies 21 = .ok (.aload_n 0, 1) := by decide +kernel
theorem dX8_dies_22 : decode cX8_dies 22 = .ok (.getfield 24, 3) := by decide +kernel
theorem dX8_dies_25 : decode cX8_dies 25 = .ok (.iload_n 1, 1) := by decide +kernel
theorem dX8_dies_26 : decode cX8_dies 26 = .ok (.iaload, 1) := by decide +kernel
theorem dX8_dies_27 : decode cX8_dies 27 = .ok (.aload_n 0, 1) := by decide +kernel
theorem dX8_dies_28 : decode cX8_dies 28 = .ok (.getfield 24, 3) := by decide +kernel
theorem dX8_dies_31 : decode cX8_dies 31 = .ok (.iload_n 2, 1) := by decide +kernel
theorem dX8_dies_32 : decode cX8_dies 32 = .ok (.iaload, 1) := by decide +kernel
theorem dX8_dies_33 : decode cX8_dies 33 = .ok (.if_icmp .eq 5, 3) := by decide +kernel
theorem dX8_dies_36 : decode cX8_dies 36 = .ok (.iconst 0, 1) := by decide +kernel
theorem dX8_dies_37 : decode cX8_dies 37 = .ok (.ireturn, 1) := by decide +kernel
theorem dX8_dies_38 : decode cX8_dies 38 = .ok (.aload_n 0, 1) := by decide +kernel
theorem dX8_dies_39 : decode cX8_dies 39 = .ok (.getfield 30, 3) := by decide +kernel
theorem dX8_dies_42 : decode cX8_dies 42 = .ok (.iload_n 1, 1) := by decide +kernel
theorem dX8_dies_43 : decode cX8_dies 43 = .ok (.iconst 0, 1) := by decide +kernel
theorem dX8_dies_44 : decode cX8_dies 44 = .ok (.bastore, 1) := by decide +kernel
theorem dX8_dies_45 : decode cX8_dies 45 = .ok (.iconst 0, 1) := by decide +kernel
theorem dX8_dies_46 : decode cX8_dies 46 = .ok (.istore_n 3, 1) := by decide +kernel
theorem dX8_dies_47 : decode cX8_dies 47 = .ok (.iload_n 3, 1) := by decide +kernel
theorem dX8_dies_48 : decode cX8_dies 48 = .ok (.aload_n 0, 1) := by decide +kernel
theorem dX8_dies_49 : decode cX8_dies 49 = .ok (.getfield 150, 3) := by decide +kernel
theorem dX8_dies_52 : decode cX8_dies 52 = .ok (.if_icmp .ge 25, 3) := by decide +kernel
theorem dX8_dies_55 : decode cX8_dies 55 = .ok (.aload_n 0, 1) := by decide +kernel
theorem dX8_dies_56 : decode cX8_dies 56 = .ok (.getfield 43, 3) := by decide +kernel
theorem dX8_dies_59 : decode cX8_dies 59 = .ok (.iload_n 3, 1) := by decide +kernel
theorem dX8_dies_60 : decode cX8_dies 60 = .ok (.iaload, 1) := by decide +kernel
theorem dX8_dies_61 : decode cX8_dies 61 = .ok (.iload_n 1, 1) := by decide +kernel
theorem dX8_dies_62 : decode cX8_dies 62 = .ok (.if_icmp .ne 9, 3) := by decide +kernel
theorem dX8_dies_65 : decode cX8_dies 65 = .ok (.aload_n 0, 1) := by decide +kernel
theorem dX8_dies_66 : decode cX8_dies 66 = .ok (.iload_n 3, 1) := by decide +kernel
theorem dX8_dies_67 : decode cX8_dies 67 = .ok (.iload_n 2, 1) := by decide +kernel
theorem dX8_dies_68 : decode cX8_dies 68 = .ok (.invokevirtual 160, 3) := by decide +kernel
theorem dX8_dies_71 : decode cX8_dies 71 = .ok (.iinc 3 1, 3) := by decide +kernel
theorem dX8_dies_74 : decode cX8_dies 74 = .ok (.goto (-27), 3) := by decide +kernel
theorem dX8_dies_77 : decode cX8_dies 77 = .ok (.iconst 0, 1) := by decide +kernel
theorem dX8_dies_78 : decode cX8_dies 78 = .ok (.istore_n 3, 1) := by decide +kernel
theorem dX8_dies_79 : decode cX8_dies 79 = .ok (.iload_n 3, 1) := by decide +kernel
theorem dX8_dies_80 : decode cX8_dies 80 = .ok (.aload_n 0, 1) := by decide +kernel
theorem dX8_dies_81 : decode cX8_dies 81 = .ok (.getfield 174, 3) := by decide +kernel
theorem dX8_dies_84 : decode cX8_dies 84 = .ok (.if_icmp .ge 43, 3) := by decide +kernel
theorem dX8_dies_87 : decode cX8_dies 87 = .ok (.aload_n 0, 1) := by decide +kernel
theorem dX8_dies_88 : decode cX8_dies 88 = .ok (.getfield 70, 3) := by decide +kernel
theorem dX8_dies_91 : decode cX8_dies 91 = .ok (.iload_n 3, 1) := by decide +kernel
theorem dX8_dies_92 : decode cX8_dies 92 = .ok (.iaload, 1) := by decide +kernel
theorem dX8_dies_93 : decode cX8_dies 93 = .ok (.iload_n 1, 1) := by decide +kernel
theorem dX8_dies_94 : decode cX8_dies 94 = .ok (.if_icmp .ne 10, 3) := by decide +kernel
theorem dX8_dies_97 : decode cX8_dies 97 = .ok (.aload_n 0, 1) := by decide +kernel
theorem dX8_dies_98 : decode cX8_dies 98 = .ok (.getfield 70, 3) := by decide +kernel
theorem dX8_dies_101 : decode cX8_dies 101 = .ok (.iload_n 3, 1) := by decide +kernel
theorem dX8_dies_102 : decode cX8_dies 102 = .ok (.iload_n 2, 1) := by decide +kernel
theorem dX8_dies_103 : decode cX8_dies 103 = .ok (.iastore, 1) := by decide +kernel
theorem dX8_dies_104 : decode cX8_dies 104 = .ok (.aload_n 0, 1) := by decide +kernel
theorem dX8_dies_105 : decode cX8_dies 105 = .ok (.getfield 73, 3) := by decide +kernel
theorem dX8_dies_108 : decode cX8_dies 108 = .ok (.iload_n 3, 1) := by decide +kernel
theorem dX8_dies_109 : decode cX8_dies 109 = .ok (.iaload, 1) := by decide +kernel
theorem dX8_dies_110 : decode cX8_dies 110 = .ok (.iload_n 1, 1) := by decide +kernel
theorem dX8_dies_111 : decode cX8_dies 111 = .ok (.if_icmp .ne 10, 3) := by decide +kernel
theorem dX8_dies_114 : decode cX8_dies 114 = .ok (.aload_n 0, 1) := by decide +kernel
theorem dX8_dies_115 : decode cX8_dies 115 = .ok (.getfield 73, 3) := by decide +kernel
theorem dX8_dies_118 : decode cX8_dies 118 = .ok (.iload_n 3, 1) := by decide +kernel
theorem dX8_dies_119 : decode cX8_dies 119 = .ok (.iload_n 2, 1) := by decide +kernel
theorem dX8_dies_120 : decode cX8_dies 120 = .ok (.iastore, 1) := by decide +kernel
theorem dX8_dies_121 : decode cX8_dies 121 = .ok (.iinc 3 1, 3) := by decide +kernel
theorem dX8_dies_124 : decode cX8_dies 124 = .ok (.goto (-45), 3) := by decide +kernel
theorem dX8_dies_127 : decode cX8_dies 127 = .ok (.iconst 0, 1) := by decide +kernel
theorem dX8_dies_128 : decode cX8_dies 128 = .ok (.istore_n 3, 1) := by decide +kernel
theorem dX8_dies_129 : decode cX8_dies 129 = .ok (.iload_n 3, 1) := by decide +kernel
theorem dX8_dies_130 : decode cX8_dies 130 = .ok (.aload_n 0, 1) := by decide +kernel
theorem dX8_dies_131 : decode cX8_dies 131 = .ok (.getfield 137, 3) := by decide +kernel
theorem dX8_dies_134 : decode cX8_dies 134 = .ok (.if_icmp .ge 74, 3) := by decide +kernel
theorem dX8_dies_137 : decode cX8_dies 137 = .ok (.aload_n 0, 1) := by decide +kernel
theorem dX8_dies_138 : decode cX8_dies 138 = .ok (.getfield 34, 3) := by decide +kernel
theorem dX8_dies_141 : decode cX8_dies 141 = .ok (.bipush 16, 2) := by decide +kernel
theorem dX8_dies_143 : decode cX8_dies 143 = .ok (.iload_n 1, 1) := by decide +kernel
theorem dX8_dies_144 : decode cX8_dies 144 = .ok (.imul, 1) := by decide +kernel
theorem dX8_dies_145 : decode cX8_dies 145 = .ok (.iload_n 3, 1) := by decide +kernel
theorem dX8_dies_146 : decode cX8_dies 146 = .ok (.iadd, 1) := by decide +kernel
theorem dX8_dies_147 : decode cX8_dies 147 = .ok (.baload, 1) := by decide +kernel
theorem dX8_dies_148 : decode cX8_dies 148 = .ok (.ifCond .ne 6, 3) := by decide +kernel
theorem dX8_dies_151 : decode cX8_dies 151 = .ok (.goto 51, 3) := by decide +kernel
theorem dX8_dies_154 : decode cX8_dies 154 = .ok (.aload_n 0, 1) := by decide +kernel
theorem dX8_dies_155 : decode cX8_dies 155 = .ok (.getfield 34, 3) := by decide +kernel
theorem dX8_dies_158 : decode cX8_dies 158 = .ok (.bipush 16, 2) := by decide +kernel
theorem dX8_dies_160 : decode cX8_dies 160 = .ok (.iload_n 1, 1) := by decide +kernel
theorem dX8_dies_161 : decode cX8_dies 161 = .ok (.imul, 1) := by decide +kernel
theorem dX8_dies_162 : decode cX8_dies 162 = .ok (.iload_n 3, 1) := by decide +kernel
theorem dX8_dies_163 : decode cX8_dies 163 = .ok (.iadd, 1) := by decide +kernel
theorem dX8_dies_164 : decode cX8_dies 164 = .ok (.iconst 0, 1) := by decide +kernel
theorem dX8_dies_165 : decode cX8_dies 165 = .ok (.bastore, 1) := by decide +kernel
theorem dX8_dies_166 : decode cX8_dies 166 = .ok (.aload_n 0, 1) := by decide +kernel
theorem dX8_dies_167 : decode cX8_dies 167 = .ok (.getfield 34, 3) := by decide +kernel
theorem dX8_dies_170 : decode cX8_dies 170 = .ok (.bipush 16, 2) := by decide +kernel
theorem dX8_dies_172 : decode cX8_dies 172 = .ok (.iload_n 3, 1) := by decide +kernel
theorem dX8_dies_173 : decode cX8_dies 173 = .ok (.imul, 1) := by decide +kernel
theorem dX8_dies_174 : decode cX8_dies 174 = .ok (.iload_n 1, 1) := by decide +kernel
theorem dX8_dies_175 : decode cX8_dies 175 = .ok (.iadd, 1) := by decide +kernel
theorem dX8_dies_176 : decode cX8_dies 176 = .ok (.iconst 0, 1) := by decide +kernel
theorem dX8_dies_177 : decode cX8_dies 177 = .ok (.bastore, 1) := by decide +kernel
theorem dX8_dies_178 : decode cX8_dies 178 = .ok (.aload_n 0, 1) := by decide +kernel
theorem dX8_dies_179 : decode cX8_dies 179 = .ok (.getfield 34, 3) := by decide +kernel
theorem dX8_dies_182 : decode cX8_dies 182 = .ok (.bipush 16, 2) := by decide +kernel
theorem dX8_dies_184 : decode cX8_dies 184 = .ok (.iload_n 2, 1) := by decide +kernel
theorem dX8_dies_185 : decode cX8_dies 185 = .ok (.imul, 1) := by decide +kernel
theorem dX8_dies_186 : decode cX8_dies 186 = .ok (.iload_n 3, 1) := by decide +kernel
theorem dX8_dies_187 : decode cX8_dies 187 = .ok (.iadd, 1) := by decide +kernel
theorem dX8_dies_188 : decode cX8_dies 188 = .ok (.iconst 1, 1) := by decide +kernel
theorem dX8_dies_189 : decode cX8_dies 189 = .ok (.bastore, 1) := by decide +kernel
theorem dX8_dies_190 : decode cX8_dies 190 = .ok (.aload_n 0, 1) := by decide +kernel
theorem dX8_dies_191 : decode cX8_dies 191 = .ok (.getfield 34, 3) := by decide +kernel
theorem dX8_dies_194 : decode cX8_dies 194 = .ok (.bipush 16, 2) := by decide +kernel
theorem dX8_dies_196 : decode cX8_dies 196 = .ok (.iload_n 3, 1) := by decide +kernel
theorem dX8_dies_197 : decode cX8_dies 197 = .ok (.imul, 1) := by decide +kernel
theorem dX8_dies_198 : decode cX8_dies 198 = .ok (.iload_n 2, 1) := by decide +kernel
theorem dX8_dies_199 : decode cX8_dies 199 = .ok (.iadd, 1) := by decide +kernel
theorem dX8_dies_200 : decode cX8_dies 200 = .ok (.iconst 1, 1) := by decide +kernel
theorem dX8_dies_201 : decode cX8_dies 201 = .ok (.bastore, 1) := by decide +kernel
theorem dX8_dies_202 : decode cX8_dies 202 = .ok (.iinc 3 1, 3) := by decide +kernel
theorem dX8_dies_205 : decode cX8_dies 205 = .ok (.goto (-76), 3) := by decide +kernel
theorem dX8_dies_208 : decode cX8_dies 208 = .ok (.iconst 1, 1) := by decide +kernel
theorem dX8_dies_209 : decode cX8_dies 209 = .ok (.ireturn, 1) := by decide +kernel
theorem dX8_lost_0 : decode cX8_lost 0 = .ok (.aload_n 0, 1) := by decide +kernel
theorem dX8_lost_1 : decode cX8_lost 1 = .ok (.iload_n 1, 1) := by decide +kernel
theorem dX8_lost_2 : decode cX8_lost 2 = .ok (.invokevirtual 164, 3) := by decide +kernel
theorem dX8_lost_5 : decode cX8_lost 5 = .ok (.ifCond .eq 13, 3) := by decide +kernel
theorem dX8_lost_8 : decode cX8_lost 8 = .ok (.aload_n 0, 1) := by decide +kernel
theorem dX8_lost_9 : decode cX8_lost 9 = .ok (.getfield 43, 3) := by decide +kernel
theorem dX8_lost_12 : decode cX8_lost 12 = .ok (.iload_n 1, 1) := by decide +kernel
theorem dX8_lost_13 : decode cX8_lost 13 = .ok (.iaload, 1) := by decide +kernel
theorem dX8_lost_14 : decode cX8_lost 14 = .ok (.iconst (-1), 1) := by decide +kernel
theorem dX8_lost_15 : decode cX8_lost 15 = .ok (.if_icmp .ne 5, 3) := by decide +kernel
theorem dX8_lost_18 : decode cX8_lost 18 = .ok (.iconst 0, 1) := by decide +kernel
theorem dX8_lost_19 : decode cX8_lost 19 = .ok (.ireturn, 1) := by decide +kernel
theorem dX8_lost_20 : decode cX8_lost 20 = .ok (.aload_n 0, 1) := by decide +kernel
theorem dX8_lost_21 : decode cX8_lost 21 = .ok (.iload_n 1, 1) := by decide +kernel
theorem dX8_lost_22 : decode cX8_lost 22 = .ok (.aload_n 0, 1) := by decide +kernel
theorem dX8_lost_23 : decode cX8_lost 23 = .ok (.getfield 24, 3) := by decide +kernel
theorem dX8_lost_26 : decode cX8_lost 26 = .ok (.aload_n 0, 1) := by decide +kernel
theorem dX8_lost_27 : decode cX8_lost 27 = .ok (.getfield 43, 3) := by decide +kernel
theorem dX8_lost_30 : decode cX8_lost 30 = .ok (.iload_n 1, 1) := by decide +kernel
theorem dX8_lost_31 : decode cX8_lost 31 = .ok (.iaload, 1) := by decide +kernel
theorem dX8_lost_32 : decode cX8_lost 32 = .ok (.iaload, 1) := by decide +kernel
theorem dX8_lost_33 : decode cX8_lost 33 = .ok (.bipush (-2), 2) := by decide +kernel
theorem dX8_lost_35 : decode cX8_lost 35 = .ok (.invokevirtual 156, 3) := by decide +kernel
theorem dX8_lost_38 : decode cX8_lost 38 = .ok (.aload_n 0, 1) := by decide +kernel
theorem dX8_lost_39 : decode cX8_lost 39 = .ok (.getfield 43, 3) := by decide +kernel
theorem dX8_lost_42 : decode cX8_lost 42 = .ok (.iload_n 1, 1) := by decide +kernel
theorem dX8_lost_43 : decode cX8_lost 43 = .ok (.iconst (-1), 1) := by decide +kernel
theorem dX8_lost_44 : decode cX8_lost 44 = .ok (.iastore, 1) := by decide +kernel
theorem dX8_lost_45 : decode cX8_lost 45 = .ok (.iconst 1, 1) := by decide +kernel
theorem dX8_lost_46 : decode cX8_lost 46 = .ok (.ireturn, 1) := by decide +kernel
theorem dX8_finds_0 : decode cX8_finds 0 = .ok (.aload_n 0, 1) := by decide +kernel
theorem dX8_finds_1 : decode cX8_finds 1 = .ok (.iconst 0, 1) := by decide +kernel
theorem dX8_finds_2 : decode cX8_finds 2 = .ok (.putfield 191, 3) := by decide +kernel
theorem dX8_finds_5 : decode cX8_finds 5 = .ok (.iconst 0, 1) := by decide +kernel
theorem dX8_finds_6 : decode cX8_finds 6 = .ok (.istore_n 2, 1) := by decide +kernel
theorem dX8_finds_7 : decode cX8_finds 7 = .ok (.iload_n 2, 1) := by decide +kernel
theorem dX8_finds_8 : decode cX8_finds 8 = .ok (.aload_n 0, 1) := by decide +kernel
theorem dX8_finds_9 : decode cX8_finds 9 = .ok (.getfield 150, 3) := by decide +kernel
theorem dX8_finds_12 : decode cX8_finds 12 = .ok (.if_icmp .ge 75, 3) := by decide +kernel
theorem dX8_finds_15 : decode cX8_finds 15 = .ok (.aload_n 0, 1) := by decide +kernel
theorem dX8_finds_16 : decode cX8_finds 16 = .ok (.getfield 43, 3) := by decide +kernel
theorem dX8_finds_19 : decode cX8_finds 19 = .ok (.iload_n 2, 1) := by decide +kernel
theorem dX8_finds_20 : decode cX8_finds 20 = .ok (.iaload, 1) := by decide +kernel
theorem dX8_finds_21 : decode cX8_finds 21 = .ok (.iload_n 1, 1) := by decide +kernel
theorem dX8_finds_22 : decode cX8_finds 22 = .ok (.if_icmp .ne 59, 3) := by decide +kernel
theorem dX8_finds_25 : decode cX8_finds 25 = .ok (.aload_n 0, 1) := by decide +kernel
theorem dX8_finds_26 : decode cX8_finds 26 = .ok (.getfield 49, 3) := by decide +kernel
theorem dX8_finds_29 : decode cX8_finds 29 = .ok (.iload_n 2, 1) := by decide +kernel
theorem dX8_finds_30 : decode cX8_finds 30 = .ok (.iaload, 1) := by decide +kernel
theorem dX8_finds_31 : decode cX8_finds 31 = .ok (.aload_n 0, 1) := by decide +kernel
theorem dX8_finds_32 : decode cX8_finds 32 = .ok (.getfield 153, 3) := by decide +kernel
theorem dX8_finds_35 : decode cX8_finds 35 = .ok (.if_icmp .eq 46, 3) := by decide +kernel
theorem dX8_finds_38 : decode cX8_finds 38 = .ok (.aload_n 0, 1) := by decide +kernel
theorem dX8_finds_39 : decode cX8_finds 39 = .ok (.getfield 52, 3) := by decide +kernel
theorem dX8_finds_42 : decode cX8_finds 42 = .ok (.iload_n 2, 1) := by decide +kernel
theorem dX8_finds_43 : decode cX8_finds 43 = .ok (.iaload, 1) := by decide +kernel
theorem dX8_finds_44 : decode cX8_finds 44 = .ok (.bipush 64, 2) := by decide +kernel
theorem dX8_finds_46 : decode cX8_finds 46 = .ok (.if_icmp .eq 35, 3) := by decide +kernel
theorem dX8_finds_49 : decode cX8_finds 49 = .ok (.aload_n 0, 1) := by decide +kernel
theorem dX8_finds_50 : decode cX8_finds 50 = .ok (.getfield 191, 3) := by decide +kernel
theorem dX8_finds_53 : decode cX8_finds 53 = .ok (.bipush 8, 2) := by decide +kernel
theorem dX8_finds_55 : decode cX8_finds 55 = .ok (.if_icmp .ne 6, 3) := by decide +kernel
theorem dX8_finds_58 : decode cX8_finds 58 = .ok (.goto 23, 3) := by decide +kernel
theorem dX8_finds_61 : decode cX8_finds 61 = .ok (.aload_n 0, 1) := by decide +kernel
theorem dX8_finds_62 : decode cX8_finds 62 = .ok (.getfield 94, 3) := by decide +kernel
theorem dX8_finds_65 : decode cX8_finds 65 = .ok (.aload_n 0, 1) := by decide +kernel
theorem dX8_finds_66 : decode cX8_finds 66 = .ok (.getfield 191, 3) := by decide +kernel
theorem dX8_finds_69 : decode cX8_finds 69 = .ok (.iload_n 2, 1) := by decide +kernel
theorem dX8_finds_70 : decode cX8_finds 70 = .ok (.iastore, 1) := by decide +kernel
theorem dX8_finds_71 : decode cX8_finds 71 = .ok (.aload_n 0, 1) := by decide +kernel
theorem dX8_finds_72 : decode cX8_finds 72 = .ok (.aload_n 0, 1) := by decide +kernel
theorem dX8_finds_73 : decode cX8_finds 73 = .ok (.getfield 191, 3) := by decide +kernel
theorem dX8_finds_76 : decode cX8_finds 76 = .ok (.iconst 1, 1) := by decide +kernel
theorem dX8_finds_77 : decode cX8_finds 77 = .ok (.iadd, 1) := by decide +kernel
theorem dX8_finds_78 : decode cX8_finds 78 = .ok (.putfield 191, 3) := by decide +kernel
theorem dX8_finds_81 : decode cX8_finds 81 = .ok (.iinc 2 1, 3) := by decide +kernel
theorem dX8_finds_84 : decode cX8_finds 84 = .ok (.goto (-77), 3) := by decide +kernel
theorem dX8_finds_87 : decode cX8_finds 87 = .ok (.aload_n 0, 1) := by decide +kernel
theorem dX8_finds_88 : decode cX8_finds 88 = .ok (.iconst 0, 1) := by decide +kernel
theorem dX8_finds_89 : decode cX8_finds 89 = .ok (.putfield 194, 3) := by decide +kernel
theorem dX8_finds_92 : decode cX8_finds 92 = .ok (.iconst 0, 1) := by decide +kernel
theorem dX8_finds_93 : decode cX8_finds 93 = .ok (.istore_n 2, 1) := by decide +kernel
theorem dX8_finds_94 : decode cX8_finds 94 = .ok (.iload_n 2, 1) := by decide +kernel
theorem dX8_finds_95 : decode cX8_finds 95 = .ok (.aload_n 0, 1) := by decide +kernel
theorem dX8_finds_96 : decode cX8_finds 96 = .ok (.getfield 174, 3) := by decide +kernel
theorem dX8_finds_99 : decode cX8_finds 99 = .ok (.if_icmp .ge 59, 3) := by decide +kernel
theorem dX8_finds_102 : decode cX8_finds 102 = .ok (.aload_n 0, 1) := by decide +kernel
theorem dX8_finds_103 : decode cX8_finds 103 = .ok (.iload_n 2, 1) := by decide +kernel
theorem dX8_finds_104 : decode cX8_finds 104 = .ok (.invokevirtual 171, 3) := by decide +kernel
theorem dX8_finds_107 : decode cX8_finds 107 = .ok (.ifCond .eq 45, 3) := by decide +kernel
theorem dX8_finds_110 : decode cX8_finds 110 = .ok (.aload_n 0, 1) := by decide +kernel
theorem dX8_finds_111 : decode cX8_finds 111 = .ok (.getfield 70, 3) := by decide +kernel
theorem dX8_finds_114 : decode cX8_finds 114 = .ok (.iload_n 2, 1) := by decide +kernel
theorem dX8_finds_115 : decode cX8_finds 115 = .ok (.iaload, 1) := by decide +kernel
theorem dX8_finds_116 : decode cX8_finds 116 = .ok (.iload_n 1, 1) := by decide +kernel
theorem dX8_finds_117 : decode cX8_finds 117 = .ok (.if_icmp .ne 35, 3) := by decide +kernel
theorem dX8_finds_120 : decode cX8_finds 120 = .ok (.aload_n 0, 1) := by decide +kernel
theorem dX8_finds_121 : decode cX8_finds 121 = .ok (.getfield 194, 3) := by decide +kernel
theorem dX8_finds_124 : decode cX8_finds 124 = .ok (.bipush 6, 2) := by decide +kernel
theorem dX8_finds_126 : decode cX8_finds 126 = .ok (.if_icmp .ne 6, 3) := by decide +kernel
theorem dX8_finds_129 : decode cX8_finds 129 = .ok (.goto 23, 3) := by decide +kernel
theorem dX8_finds_132 : decode cX8_finds 132 = .ok (.aload_n 0, 1) := by decide +kernel
theorem dX8_finds_133 : decode cX8_finds 133 = .ok (.getfield 97, 3) := by decide +kernel
theorem dX8_finds_136 : decode cX8_finds 136 = .ok (.aload_n 0, 1) := by decide +kernel
theorem dX8_finds_137 : decode cX8_finds 137 = .ok (.getfield 194, 3) := by decide +kernel
theorem dX8_finds_140 : decode cX8_finds 140 = .ok (.iload_n 2, 1) := by decide +kernel
theorem dX8_finds_141 : decode cX8_finds 141 = .ok (.iastore, 1) := by decide +kernel
theorem dX8_finds_142 : decode cX8_finds 142 = .ok (.aload_n 0, 1) := by decide +kernel
theorem dX8_finds_143 : decode cX8_finds 143 = .ok (.aload_n 0, 1) := by decide +kernel
theorem dX8_finds_144 : decode cX8_finds 144 = .ok (.getfield 194, 3) := by decide +kernel
theorem dX8_finds_147 : decode cX8_finds 147 = .ok (.iconst 1, 1) := by decide +kernel
theorem dX8_finds_148 : decode cX8_finds 148 = .ok (.iadd, 1) := by decide +kernel
theorem dX8_finds_149 : decode cX8_finds 149 = .ok (.putfield 194, 3) := by decide +kernel
theorem dX8_finds_152 : decode cX8_finds 152 = .ok (.iinc 2 1, 3) := by decide +kernel
theorem dX8_finds_155 : decode cX8_finds 155 = .ok (.goto (-61), 3) := by decide +kernel
theorem dX8_finds_158 : decode cX8_finds 158 = .ok (.return_, 1) := by decide +kernel
theorem dX8_canBeAll_0 : decode cX8_canBeAll 0 = .ok (.iconst 1, 1) := by decide +kernel
theorem dX8_canBeAll_1 : decode cX8_canBeAll 1 = .ok (.istore_n 1, 1) := by decide +kernel
theorem dX8_canBeAll_2 : decode cX8_canBeAll 2 = .ok (.iconst 0, 1) := by decide +kernel
theorem dX8_canBeAll_3 : decode cX8_canBeAll 3 = .ok (.istore_n 2, 1) := by decide +kernel
theorem dX8_canBeAll_4 : decode cX8_canBeAll 4 = .ok (.iload_n 2, 1) := by decide +kernel
theorem dX8_canBeAll_5 : decode cX8_canBeAll 5 = .ok (.aload_n 0, 1) := by decide +kernel
theorem dX8_canBeAll_6 : decode cX8_canBeAll 6 = .ok (.getfield 194, 3) := by decide +kernel
theorem dX8_canBeAll_9 : decode cX8_canBeAll 9 = .ok (.if_icmp .ge 113, 3) := by decide +kernel
theorem dX8_canBeAll_12 : decode cX8_canBeAll 12 = .ok (.aload_n 0, 1) := by decide +kernel
theorem dX8_canBeAll_13 : decode cX8_canBeAll 13 = .ok (.getfield 100, 3) := by decide +kernel
theorem dX8_canBeAll_16 : decode cX8_canBeAll 16 = .ok (.iload_n 2, 1) := by decide +kernel
theorem dX8_canBeAll_17 : decode cX8_canBeAll 17 = .ok (.iaload, 1) := by decide +kernel
theorem dX8_canBeAll_18 : decode cX8_canBeAll 18 = .ok (.istore_n 3, 1) := by decide +kernel
theorem dX8_canBeAll_19 : decode cX8_canBeAll 19 = .ok (.iload_n 3, 1) := by decide +kernel
theorem dX8_canBeAll_20 : decode cX8_canBeAll 20 = .ok (.bipush 24, 2) := by decide +kernel
theorem dX8_canBeAll_22 : decode cX8_canBeAll 22 = .ok (.if_icmp .ne 6, 3) := by decide +kernel
theorem dX8_canBeAll_25 : decode cX8_canBeAll 25 = .ok (.goto 91, 3) := by decide +kernel
theorem dX8_canBeAll_28 : decode cX8_canBeAll 28 = .ok (.iload_n 1, 1) := by decide +kernel
theorem dX8_canBeAll_29 : decode cX8_canBeAll 29 = .ok (.ifCond .eq 49, 3) := by decide +kernel
theorem dX8_canBeAll_32 : decode cX8_canBeAll 32 = .ok (.aload_n 0, 1) := by decide +kernel
theorem dX8_canBeAll_33 : decode cX8_canBeAll 33 = .ok (.getfield 37, 3) := by decide +kernel
theorem dX8_canBeAll_36 : decode cX8_canBeAll 36 = .ok (.iload_n 3, 1) := by decide +kernel
theorem dX8_canBeAll_37 : decode cX8_canBeAll 37 = .ok (.iaload, 1) := by decide +kernel
theorem dX8_canBeAll_38 : decode cX8_canBeAll 38 = .ok (.iconst 1, 1) := by decide +kernel
theorem dX8_canBeAll_39 : decode cX8_canBeAll 39 = .ok (.aload_n 0, 1) := by decide +kernel
theorem dX8_canBeAll_40 : decode cX8_canBeAll 40 = .ok (.getfield 76, 3) := by decide +kernel
theorem dX8_canBeAll_43 : decode cX8_canBeAll 43 = .ok (.aload_n 0, 1) := by decide +kernel
theorem dX8_canBeAll_44 : decode cX8_canBeAll 44 = .ok (.getfield 97, 3) := by decide +kernel
theorem dX8_canBeAll_47 : decode cX8_canBeAll 47 = .ok (.iload_n 2, 1) := by decide +kernel
theorem dX8_canBeAll_48 : decode cX8_canBeAll 48 = .ok (.iaload, 1) := by decide +kernel
theorem dX8_canBeAll_49 : decode cX8_canBeAll 49 = .ok (.iaload, 1) := by decide +kernel
theorem dX8_canBeAll_50 : decode cX8_canBeAll 50 = .ok (.isub, 1) := by decide +kernel
theorem dX8_canBeAll_51 : decode cX8_canBeAll 51 = .ok (.if_icmp .ne 27, 3) := by decide +kernel
theorem dX8_canBeAll_54 : decode cX8_canBeAll 54 = .ok (.aload_n 0, 1) := by decide +kernel
theorem dX8_canBeAll_55 : decode cX8_canBeAll 55 = .ok (.getfield 40, 3) := by decide +kernel
theorem dX8_canBeAll_58 : decode cX8_canBeAll 58 = .ok (.iload_n 3, 1) := by decide +kernel
theorem dX8_canBeAll_59 : decode cX8_canBeAll 59 = .ok (.iaload, 1) := by decide +kernel
theorem dX8_canBeAll_60 : decode cX8_canBeAll 60 = .ok (.aload_n 0, 1) := by decide +kernel
theorem dX8_canBeAll_61 : decode cX8_canBeAll 61 = .ok (.getfield 79, 3) := by decide +kernel
theorem dX8_canBeAll_64 : decode cX8_canBeAll 64 = .ok (.aload_n 0, 1) := by decide +kernel
theorem dX8_canBeAll_65 : decode cX8_canBeAll 65 = .ok (.getfield 97, 3) := by decide +kernel
theorem dX8_canBeAll_68 : decode cX8_canBeAll 68 = .ok (.iload_n 2, 1) := by decide +kernel
theorem dX8_canBeAll_69 : decode cX8_canBeAll 69 = .ok (.iaload, 1) := by decide +kernel
theorem dX8_canBeAll_70 : decode cX8_canBeAll 70 = .ok (.iaload, 1) := by decide +kernel
theorem dX8_canBeAll_71 : decode cX8_canBeAll 71 = .ok (.if_icmp .lt 7, 3) := by decide +kernel
theorem dX8_canBeAll_74 : decode cX8_canBeAll 74 = .ok (.iconst 1, 1) := by decide +kernel
theorem dX8_canBeAll_75 : decode cX8_canBeAll 75 = .ok (.goto 4, 3) := by decide +kernel
theorem dX8_canBeAll_78 : decode cX8_canBeAll 78 = .ok (.iconst 0, 1) := by decide +kernel
theorem dX8_canBeAll_79 : decode cX8_canBeAll 79 = .ok (.istore_n 1, 1) := by decide +kernel
theorem dX8_canBeAll_80 : decode cX8_canBeAll 80 = .ok (.iconst 0, 1) := by decide +kernel
theorem dX8_canBeAll_81 : decode cX8_canBeAll 81 = .ok (.istore 4, 2) := by decide +kernel
theorem dX8_canBeAll_83 : decode cX8_canBeAll 83 = .ok (.iload 4, 2) := by decide +kernel
theorem dX8_canBeAll_85 : decode cX8_canBeAll 85 = .ok (.iload_n 2, 1) := by decide +kernel
theorem dX8_canBeAll_86 : decode cX8_canBeAll 86 = .ok (.if_icmp .ge 30, 3) := by decide +kernel
theorem dX8_canBeAll_89 : decode cX8_canBeAll 89 = .ok (.iload_n 1, 1) := by decide +kernel
theorem dX8_canBeAll_90 : decode cX8_canBeAll 90 = .ok (.ifCond .eq 18, 3) := by decide +kernel
theorem dX8_canBeAll_93 : decode cX8_canBeAll 93 = .ok (.aload_n 0, 1) := by decide +kernel
theorem dX8_canBeAll_94 : decode cX8_canBeAll 94 = .ok (.getfield 100, 3) := by decide +kernel
theorem dX8_canBeAll_97 : decode cX8_canBeAll 97 = .ok (.iload 4, 2) := by decide +kernel
theorem dX8_canBeAll_99 : decode cX8_canBeAll 99 = .ok (.iaload, 1) := by decide +kernel
theorem dX8_canBeAll_100 : decode cX8_canBeAll 100 = .ok (.iload_n 3, 1) := by decide +kernel
theorem dX8_canBeAll_101 : decode cX8_canBeAll 101 = .ok (.if_icmp .eq 7, 3) := by decide +kernel
theorem dX8_canBeAll_104 : decode cX8_canBeAll 104 = .ok (.iconst 1, 1) := by decide +kernel
theorem dX8_canBeAll_105 : decode cX8_canBeAll 105 = .ok (.goto 4, 3) := by decide +kernel
theorem dX8_canBeAll_108 : decode cX8_canBeAll 108 = .ok (.iconst 0, 1) := by decide +kernel
theorem dX8_canBeAll_109 : decode cX8_canBeAll 109 = .ok (.istore_n 1, 1) := by decide +kernel
theorem dX8_canBeAll_110 : decode cX8_canBeAll 110 = .ok (.iinc 4 1, 3) := by decide +kernel
theorem dX8_canBeAll_113 : decode cX8_canBeAll 113 = .ok (.goto (-30), 3) := by decide +kernel
theorem dX8_canBeAll_116 : decode cX8_canBeAll 116 = .ok (.iinc 2 1, 3) := by decide +kernel
theorem dX8_canBeAll_119 : decode cX8_canBeAll 119 = .ok (.goto (-115), 3) := by decide +kernel
theorem dX8_canBeAll_122 : decode cX8_canBeAll 122 = .ok (.iload_n 1, 1) := by decide +kernel
theorem dX8_canBeAll_123 : decode cX8_canBeAll 123 = .ok (.ireturn, 1) := by decide +kernel
theorem dX8_isLess_0 : decode cX8_isLess 0 = .ok (.iconst 0, 1) := by decide +kernel
theorem dX8_isLess_1 : decode cX8_isLess 1 = .ok (.istore_n 1, 1) := by decide +kernel
theorem dX8_isLess_2 : decode cX8_isLess 2 = .ok (.iload_n 1, 1) := by decide +kernel
theorem dX8_isLess_3 : decode cX8_isLess 3 = .ok (.aload_n 0, 1) := by decide +kernel
theorem dX8_isLess_4 : decode cX8_isLess 4 = .ok (.getfield 194, 3) := by decide +kernel
theorem dX8_isLess_7 : decode cX8_isLess 7 = .ok (.if_icmp .ge 45, 3) := by decide +kernel
theorem dX8_isLess_10 : decode cX8_isLess 10 = .ok (.aload_n 0, 1) := by decide +kernel
theorem dX8_isLess_11 : decode cX8_isLess 11 = .ok (.getfield 100, 3) := by decide +kernel
theorem dX8_isLess_14 : decode cX8_isLess 14 = .ok (.iload_n 1, 1) := by decide +kernel
theorem dX8_isLess_15 : decode cX8_isLess 15 = .ok (.iaload, 1) := by decide +kernel
theorem dX8_isLess_16 : decode cX8_isLess 16 = .ok (.aload_n 0, 1) := by decide +kernel
theorem dX8_isLess_17 : decode cX8_isLess 17 = .ok (.getfield 103, 3) := by decide +kernel
theorem dX8_isLess_20 : decode cX8_isLess 20 = .ok (.iload_n 1, 1) := by decide +kernel
theorem dX8_isLess_21 : decode cX8_isLess 21 = .ok (.iaload, 1) := by decide +kernel
theorem dX8_isLess_22 : decode cX8_isLess 22 = .ok (.if_icmp .eq 24, 3) := by decide +kernel
theorem dX8_isLess_25 : decode cX8_isLess 25 = .ok (.aload_n 0, 1) := by decide +kernel
theorem dX8_isLess_26 : decode cX8_isLess 26 = .ok (.getfield 100, 3) := by decide +kernel
theorem dX8_isLess_29 : decode cX8_isLess 29 = .ok (.iload_n 1, 1) := by decide +kernel
theorem dX8_isLess_30 : decode cX8_isLess 30 = .ok (.iaload, 1) := by decide +kernel
theorem dX8_isLess_31 : decode cX8_isLess 31 = .ok (.aload_n 0, 1) := by decide +kernel
theorem dX8_isLess_32 : decode cX8_isLess 32 = .ok (.getfield 103, 3) := by decide +kernel
theorem dX8_isLess_35 : decode cX8_isLess 35 = .ok (.iload_n 1, 1) := by decide +kernel
theorem dX8_isLess_36 : decode cX8_isLess 36 = .ok (.iaload, 1) := by decide +kernel
theorem dX8_isLess_37 : decode cX8_isLess 37 = .ok (.if_icmp .ge 7, 3) := by decide +kernel
theorem dX8_isLess_40 : decode cX8_isLess 40 = .ok (.iconst 1, 1) := by decide +kernel
theorem dX8_isLess_41 : decode cX8_isLess 41 = .ok (.goto 4, 3) := by decide +kernel
theorem dX8_isLess_44 : decode cX8_isLess 44 = .ok (.iconst 0, 1) := by decide +kernel
theorem dX8_isLess_45 : decode cX8_isLess 45 = .ok (.ireturn, 1) := by decide +kernel
theorem dX8_isLess_46 : decode cX8_isLess 46 = .ok (.iinc 1 1, 3) := by decide +kernel
theorem dX8_isLess_49 : decode cX8_isLess 49 = .ok (.goto (-47), 3) := by decide +kernel
theorem dX8_isLess_52 : decode cX8_isLess 52 = .ok (.iconst 0, 1) := by decide +kernel
theorem dX8_isLess_53 : decode cX8_isLess 53 = .ok (.ireturn, 1) := by decide +kernel
theorem dX8_closings_0 : decode cX8_closings 0 = .ok (.aload_n 0, 1) := by decide +kernel
theorem dX8_closings_1 : decode cX8_closings 1 = .ok (.iload_n 1, 1) := by decide +kernel
theorem dX8_closings_2 : decode cX8_closings 2 = .ok (.invokevirtual 144, 3) := by decide +kernel
theorem dX8_closings_5 : decode cX8_closings 5 = .ok (.ifCond .ne 5, 3) := by decide +kernel
theorem dX8_closings_8 : decode cX8_closings 8 = .ok (.iconst (-1), 1) := by decide +kernel
theorem dX8_closings_9 : decode cX8_closings 9 = .ok (.ireturn, 1) := by decide +kernel
theorem dX8_closings_10 : decode cX8_closings 10 = .ok (.aload_n 0, 1) := by decide +kernel
theorem dX8_closings_11 : decode cX8_closings 11 = .ok (.iload_n 1, 1) := by decide +kernel
theorem dX8_closings_12 : decode cX8_closings 12 = .ok (.invokevirtual 197, 3) := by decide +kernel
theorem dX8_closings_15 : decode cX8_closings 15 = .ok (.iconst 1, 1) := by decide +kernel
theorem dX8_closings_16 : decode cX8_closings 16 = .ok (.istore_n 2, 1) := by decide +kernel
theorem dX8_closings_17 : decode cX8_closings 17 = .ok (.iconst 0, 1) := by decide +kernel
theorem dX8_closings_18 : decode cX8_closings 18 = .ok (.istore_n 3, 1) := by decide +kernel
theorem dX8_closings_19 : decode cX8_closings 19 = .ok (.iload_n 3, 1) := by decide +kernel
theorem dX8_closings_20 : decode cX8_closings 20 = .ok (.aload_n 0, 1) := by decide +kernel
theorem dX8_closings_21 : decode cX8_closings 21 = .ok (.getfield 194, 3) := by decide +kernel
theorem dX8_closings_24 : decode cX8_closings 24 = .ok (.if_icmp .ge 18, 3) := by decide +kernel
theorem dX8_closings_27 : decode cX8_closings 27 = .ok (.iload_n 2, 1) := by decide +kernel
theorem dX8_closings_28 : decode cX8_closings 28 = .ok (.aload_n 0, 1) := by decide +kernel
theorem dX8_closings_29 : decode cX8_closings 29 = .ok (.getfield 191, 3) := by decide +kernel
theorem dX8_closings_32 : decode cX8_closings 32 = .ok (.iconst 1, 1) := by decide +kernel
theorem dX8_closings_33 : decode cX8_closings 33 = .ok (.iadd, 1) := by decide +kernel
theorem dX8_closings_34 : decode cX8_closings 34 = .ok (.imul, 1) := by decide +kernel
theorem dX8_closings_35 : decode cX8_closings 35 = .ok (.istore_n 2, 1) := by decide +kernel
theorem dX8_closings_36 : decode cX8_closings 36 = .ok (.iinc 3 1, 3) := by decide +kernel
theorem dX8_closings_39 : decode cX8_closings 39 = .ok (.goto (-20), 3) := by decide +kernel
theorem dX8_closings_42 : decode cX8_closings 42 = .ok (.aload_n 0, 1) := by decide +kernel
theorem dX8_closings_43 : decode cX8_closings 43 = .ok (.iconst (-1), 1) := by decide +kernel
theorem dX8_closings_44 : decode cX8_closings 44 = .ok (.putfield 200, 3) := by decide +kernel
theorem dX8_closings_47 : decode cX8_closings 47 = .ok (.iconst 0, 1) := by decide +kernel
theorem dX8_closings_48 : decode cX8_closings 48 = .ok (.istore_n 3, 1) := by decide +kernel
theorem dX8_closings_49 : decode cX8_closings 49 = .ok (.iload_n 3, 1) := by decide +kernel
theorem dX8_closings_50 : decode cX8_closings 50 = .ok (.iload_n 2, 1) := by decide +kernel
theorem dX8_closings_51 : decode cX8_closings 51 = .ok (.if_icmp .ge 245, 3) := by decide +kernel
theorem dX8_closings_54 : decode cX8_closings 54 = .ok (.iload_n 3, 1) := by decide +kernel
theorem dX8_closings_55 : decode cX8_closings 55 = .ok (.istore 4, 2) := by decide +kernel
theorem dX8_closings_57 : decode cX8_closings 57 = .ok (.iconst 0, 1) := by decide +kernel
theorem dX8_closings_58 : decode cX8_closings 58 = .ok (.istore 5, 2) := by decide +kernel
theorem dX8_closings_60 : decode cX8_closings 60 = .ok (.iconst 0, 1) := by decide +kernel
theorem dX8_closings_61 : decode cX8_closings 61 = .ok (.istore 6, 2) := by decide +kernel
theorem dX8_closings_63 : decode cX8_closings 63 = .ok (.aload_n 0, 1) := by decide +kernel
theorem dX8_closings_64 : decode cX8_closings 64 = .ok (.getfield 194, 3) := by decide +kernel
theorem dX8_closings_67 : decode cX8_closings 67 = .ok (.iconst 1, 1) := by decide +kernel
theorem dX8_closings_68 : decode cX8_closings 68 = .ok (.isub, 1) := by decide +kernel
theorem dX8_closings_69 : decode cX8_closings 69 = .ok (.istore 7, 2) := by decide +kernel
theorem dX8_closings_71 : decode cX8_closings 71 = .ok (.iload 7, 2) := by decide +kernel
theorem dX8_closings_73 : decode cX8_closings 73 = .ok (.ifCond .lt 108, 3) := by decide +kernel
theorem dX8_closings_76 : decode cX8_closings 76 = .ok (.iload 4, 2) := by decide +kernel
theorem dX8_closings_78 : decode cX8_closings 78 = .ok (.aload_n 0, 1) := by decide +kernel
theorem dX8_closings_79 : decode cX8_closings 79 = .ok (.getfield 191, 3) := by decide +kernel
theorem dX8_closings_82 : decode cX8_closings 82 = .ok (.iconst 1, 1) := by decide +kernel
theorem dX8_closings_83 : decode cX8_closings 83 = .ok (.iadd, 1) := by decide +kernel
theorem dX8_closings_84 : decode cX8_closings 84 = .ok (.irem, 1) := by decide +kernel
theorem dX8_closings_85 : decode cX8_closings 85 = .ok (.istore 8, 2) := by decide +kernel
theorem dX8_closings_87 : decode cX8_closings 87 = .ok (.iload 4, 2) := by decide +kernel
theorem dX8_closings_89 : decode cX8_closings 89 = .ok (.aload_n 0, 1) := by decide +kernel
theorem dX8_closings_90 : decode cX8_closings 90 = .ok (.getfield 191, 3) := by decide +kernel
theorem dX8_closings_93 : decode cX8_closings 93 = .ok (.iconst 1, 1) := by decide +kernel
theorem dX8_closings_94 : decode cX8_closings 94 = .ok (.iadd, 1) := by decide +kernel
theorem dX8_closings_95 : decode cX8_closings 95 = .ok (.idiv, 1) := by decide +kernel
theorem dX8_closings_96 : decode cX8_closings 96 = .ok (.istore 4, 2) := by decide +kernel
theorem dX8_closings_98 : decode cX8_closings 98 = .ok (.aload_n 0, 1) := by decide +kernel
theorem dX8_closings_99 : decode cX8_closings 99 = .ok (.getfield 100, 3) := by decide +kernel
theorem dX8_closings_102 : decode cX8_closings 102 = .ok (.iload 7, 2) := by decide +kernel
theorem dX8_closings_104 : decode cX8_closings 104 = .ok (.iload 8, 2) := by decide +kernel
theorem dX8_closings_106 : decode cX8_closings 106 = .ok (.aload_n 0, 1) := by decide +kernel
theorem dX8_closings_107 : decode cX8_closings 107 = .ok (.getfield 191, 3) := by decide +kernel
theorem dX8_closings_110 : decode cX8_closings 110 = .ok (.if_icmp .ne 8, 3) := by decide +kernel
theorem dX8_closings_113 : decode cX8_closings 113 = .ok (.bipush 24, 2) := by decide +kernel
theorem dX8_closings_115 : decode cX8_closings 115 = .ok (.goto 10, 3) := by decide +kernel
theorem dX8_closings_118 : decode cX8_closings 118 = .ok (.aload_n 0, 1) := by decide +kernel
theorem dX8_closings_119 : decode cX8_closings 119 = .ok (.getfield 94, 3) := by decide +kernel
theorem dX8_closings_122 : decode cX8_closings 122 = .ok (.iload 8, 2) := by decide +kernel
theorem dX8_closings_124 : decode cX8_closings 124 = .ok (.iaload, 1) := by decide +kernel
theorem dX8_closings_125 : decode cX8_closings 125 = .ok (.iastore, 1) := by decide +kernel
theorem dX8_closings_126 : decode cX8_closings 126 = .ok (.iload 5, 2) := by decide +kernel
theorem dX8_closings_128 : decode cX8_closings 128 = .ok (.iload 8, 2) := by decide +kernel
theorem dX8_closings_130 : decode cX8_closings 130 = .ok (.aload_n 0, 1) := by decide +kernel
theorem dX8_closings_131 : decode cX8_closings 131 = .ok (.getfield 191, 3) := by decide +kernel
theorem dX8_closings_134 : decode cX8_closings 134 = .ok (.if_icmp .ne 7, 3) := by decide +kernel
theorem dX8_closings_137 : decode cX8_closings 137 = .ok (.iconst 0, 1) := by decide +kernel
theorem dX8_closings_138 : decode cX8_closings 138 = .ok (.goto 4, 3) := by decide +kernel
theorem dX8_closings_141 : decode cX8_closings 141 = .ok (.iconst 1, 1) := by decide +kernel
theorem dX8_closings_142 : decode cX8_closings 142 = .ok (.iadd, 1) := by decide +kernel
theorem dX8_closings_143 : decode cX8_closings 143 = .ok (.istore 5, 2) := by decide +kernel
theorem dX8_closings_145 : decode cX8_closings 145 = .ok (.iload 6, 2) := by decide +kernel
theorem dX8_closings_147 : decode cX8_closings 147 = .ok (.iload 8, 2) := by decide +kernel
theorem dX8_closings_149 : decode cX8_closings 149 = .ok (.aload_n 0, 1) := by decide +kernel
theorem dX8_closings_150 : decode cX8_closings 150 = .ok (.getfield 191, 3) := by decide +kernel
theorem dX8_closings_153 : decode cX8_closings 153 = .ok (.if_icmp .ne 7, 3) := by decide +kernel
theorem dX8_closings_156 : decode cX8_closings 156 = .ok (.iconst 0, 1) := by decide +kernel
theorem dX8_closings_157 : decode cX8_closings 157 = .ok (.goto 15, 3) := by decide +kernel
theorem dX8_closings_160 : decode cX8_closings 160 = .ok (.aload_n 0, 1) := by decide +kernel
theorem dX8_closings_161 : decode cX8_closings 161 = .ok (.getfield 40, 3) := by decide +kernel
theorem dX8_closings_164 : decode cX8_closings 164 = .ok (.aload_n 0, 1) := by decide +kernel
theorem dX8_closings_165 : decode cX8_closings 165 = .ok (.getfield 94, 3) := by decide +kernel
theorem dX8_closings_168 : decode cX8_closings 168 = .ok (.iload 8, 2) := by decide +kernel
theorem dX8_closings_170 : decode cX8_closings 170 = .ok (.iaload, 1) := by decide +kernel
theorem dX8_closings_171 : decode cX8_closings 171 = .ok (.iaload, 1) := by decide +kernel
theorem dX8_closings_172 : decode cX8_closings 172 = .ok (.iadd, 1) := by decide +kernel
theorem dX8_closings_173 : decode cX8_closings 173 = .ok (.istore 6, 2) := by decide +kernel
theorem dX8_closings_175 : decode cX8_closings 175 = .ok (.iinc 7 (-1), 3) := by decide +kernel
theorem dX8_closings_178 : decode cX8_closings 178 = .ok (.goto (-107), 3) := by decide +kernel
theorem dX8_closings_181 : decode cX8_closings 181 = .ok (.iload 5, 2) := by decide +kernel
theorem dX8_closings_183 : decode cX8_closings 183 = .ok (.aload_n 0, 1) := by decide +kernel
theorem dX8_closings_184 : decode cX8_closings 184 = .ok (.getfield 200, 3) := by decide +kernel
theorem dX8_closings_187 : decode cX8_closings 187 = .ok (.if_icmp .gt 37, 3) := by decide +kernel
theorem dX8_closings_190 : decode cX8_closings 190 = .ok (.iload 5, 2) := by decide +kernel
theorem dX8_closings_192 : decode cX8_closings 192 = .ok (.aload_n 0, 1) := by decide +kernel
theorem dX8_closings_193 : decode cX8_closings 193 = .ok (.getfield 200, 3) := by decide +kernel
theorem dX8_closings_196 : decode cX8_closings 196 = .ok (.if_icmp .ne 32, 3) := by decide +kernel
theorem dX8_closings_199 : decode cX8_closings 199 = .ok (.iload 6, 2) := by decide +kernel
theorem dX8_closings_201 : decode cX8_closings 201 = .ok (.aload_n 0, 1) := by decide +kernel
theorem dX8_closings_202 : decode cX8_closings 202 = .ok (.getfield 203, 3) := by decide +kernel
theorem dX8_closings_205 : decode cX8_closings 205 = .ok (.if_icmp .lt 19, 3) := by decide +kernel
theorem dX8_closings_208 : decode cX8_closings 208 = .ok (.iload 6, 2) := by decide +kernel
theorem dX8_closings_210 : decode cX8_closings 210 = .ok (.aload_n 0, 1) := by decide +kernel
theorem dX8_closings_211 : decode cX8_closings 211 = .ok (.getfield 203, 3) := by decide +kernel
theorem dX8_closings_214 : decode cX8_closings 214 = .ok (.if_icmp .ne 14, 3) := by decide +kernel
theorem dX8_closings_217 : decode cX8_closings 217 = .ok (.aload_n 0, 1) := by decide +kernel
theorem dX8_closings_218 : decode cX8_closings 218 = .ok (.invokevirtual 206, 3) := by decide +kernel
theorem dX8_closings_221 : decode cX8_closings 221 = .ok (.ifCond .eq 7, 3) := by decide +kernel
theorem dX8_closings_224 : decode cX8_closings 224 = .ok (.iconst 1, 1) := by decide +kernel
theorem dX8_closings_225 : decode cX8_closings 225 = .ok (.goto 4, 3) := by decide +kernel
theorem dX8_closings_228 : decode cX8_closings 228 = .ok (.iconst 0, 1) := by decide +kernel
theorem dX8_closings_229 : decode cX8_closings 229 = .ok (.istore 7, 2) := by decide +kernel
theorem dX8_closings_231 : decode cX8_closings 231 = .ok (.iload 7, 2) := by decide +kernel
theorem dX8_closings_233 : decode cX8_closings 233 = .ok (.ifCond .eq 57, 3) := by decide +kernel
theorem dX8_closings_236 : decode cX8_closings 236 = .ok (.aload_n 0, 1) := by decide +kernel
theorem dX8_closings_237 : decode cX8_closings 237 = .ok (.invokevirtual 210, 3) := by decide +kernel
theorem dX8_closings_240 : decode cX8_closings 240 = .ok (.ifCond .ne 6, 3) := by decide +kernel
theorem dX8_closings_243 : decode cX8_closings 243 = .ok (.goto 47, 3) := by decide +kernel
theorem dX8_closings_246 : decode cX8_closings 246 = .ok (.aload_n 0, 1) := by decide +kernel
theorem dX8_closings_247 : decode cX8_closings 247 = .ok (.iload 5, 2) := by decide +kernel
theorem dX8_closings_249 : decode cX8_closings 249 = .ok (.putfield 200, 3) := by decide +kernel
theorem dX8_closings_252 : decode cX8_closings 252 = .ok (.aload_n 0, 1) := by decide +kernel
theorem dX8_closings_253 : decode cX8_closings 253 = .ok (.iload 6, 2) := by decide +kernel
theorem dX8_closings_255 : decode cX8_closings 255 = .ok (.putfield 203, 3) := by decide +kernel
theorem dX8_closings_258 : decode cX8_closings 258 = .ok (.iconst 0, 1) := by decide +kernel
theorem dX8_closings_259 : decode cX8_closings 259 = .ok (.istore 8, 2) := by decide +kernel
theorem dX8_closings_261 : decode cX8_closings 261 = .ok (.iload 8, 2) := by decide +kernel
theorem dX8_closings_263 : decode cX8_closings 263 = .ok (.aload_n 0, 1) := by decide +kernel
theorem dX8_closings_264 : decode cX8_closings 264 = .ok (.getfield 194, 3) := by decide +kernel
theorem dX8_closings_267 : decode cX8_closings 267 = .ok (.if_icmp .ge 23, 3) := by decide +kernel
theorem dX8_closings_270 : decode cX8_closings 270 = .ok (.aload_n 0, 1) := by decide +kernel
theorem dX8_closings_271 : decode cX8_closings 271 = .ok (.getfield 103, 3) := by decide +kernel
theorem dX8_closings_274 : decode cX8_closings 274 = .ok (.iload 8, 2) := by decide +kernel
theorem dX8_closings_276 : decode cX8_closings 276 = .ok (.aload_n 0, 1) := by decide +kernel
theorem dX8_closings_277 : decode cX8_closings 277 = .ok (.getfield 100, 3) := by decide +kernel
theorem dX8_closings_280 : decode cX8_closings 280 = .ok (.iload 8, 2) := by decide +kernel
theorem dX8_closings_282 : decode cX8_closings 282 = .ok (.iaload, 1) := by decide +kernel
theorem dX8_closings_283 : decode cX8_closings 283 = .ok (.iastore, 1) := by decide +kernel
theorem dX8_closings_284 : decode cX8_closings 284 = .ok (.iinc 8 1, 3) := by decide +kernel
theorem dX8_closings_287 : decode cX8_closings 287 = .ok (.goto (-26), 3) := by decide +kernel
theorem dX8_closings_290 : decode cX8_closings 290 = .ok (.iinc 3 1, 3) := by decide +kernel
theorem dX8_closings_293 : decode cX8_closings 293 = .ok (.goto (-244), 3) := by decide +kernel
theorem dX8_closings_296 : decode cX8_closings 296 = .ok (.iconst 0, 1) := by decide +kernel
theorem dX8_closings_297 : decode cX8_closings 297 = .ok (.istore_n 3, 1) := by decide +kernel
theorem dX8_closings_298 : decode cX8_closings 298 = .ok (.iload_n 3, 1) := by decide +kernel
theorem dX8_closings_299 : decode cX8_closings 299 = .ok (.bipush 6, 2) := by decide +kernel
theorem dX8_closings_301 : decode cX8_closings 301 = .ok (.if_icmp .ge 44, 3) := by decide +kernel
theorem dX8_closings_304 : decode cX8_closings 304 = .ok (.aload_n 0, 1) := by decide +kernel
theorem dX8_closings_305 : decode cX8_closings 305 = .ok (.getfield 106, 3) := by decide +kernel
theorem dX8_closings_308 : decode cX8_closings 308 = .ok (.iload_n 3, 1) := by decide +kernel
theorem dX8_closings_309 : decode cX8_closings 309 = .ok (.iload_n 3, 1) := by decide +kernel
theorem dX8_closings_310 : decode cX8_closings 310 = .ok (.aload_n 0, 1) := by decide +kernel
theorem dX8_closings_311 : decode cX8_closings 311 = .ok (.getfield 194, 3) := by decide +kernel
theorem dX8_closings_314 : decode cX8_closings 314 = .ok (.if_icmp .ge 23, 3) := by decide +kernel
theorem dX8_closings_317 : decode cX8_closings 317 = .ok (.aload_n 0, 1) := by decide +kernel
theorem dX8_closings_318 : decode cX8_closings 318 = .ok (.getfield 103, 3) := by decide +kernel
theorem dX8_closings_321 : decode cX8_closings 321 = .ok (.iload_n 3, 1) := by decide +kernel
theorem dX8_closings_322 : decode cX8_closings 322 = .ok (.iaload, 1) := by decide +kernel
theorem dX8_closings_323 : decode cX8_closings 323 = .ok (.bipush 24, 2) := by decide +kernel
theorem dX8_closings_325 : decode cX8_closings 325 = .ok (.if_icmp .eq 12, 3) := by decide +kernel
theorem dX8_closings_328 : decode cX8_closings 328 = .ok (.aload_n 0, 1) := by decide +kernel
theorem dX8_closings_329 : decode cX8_closings 329 = .ok (.getfield 103, 3) := by decide +kernel
theorem dX8_closings_332 : decode cX8_closings 332 = .ok (.iload_n 3, 1) := by decide +kernel
theorem dX8_closings_333 : decode cX8_closings 333 = .ok (.iaload, 1) := by decide +kernel
theorem dX8_closings_334 : decode cX8_closings 334 = .ok (.goto 4, 3) := by decide +kernel
theorem dX8_closings_337 : decode cX8_closings 337 = .ok (.iconst (-1), 1) := by decide +kernel
theorem dX8_closings_338 : decode cX8_closings 338 = .ok (.iastore, 1) := by decide +kernel
theorem dX8_closings_339 : decode cX8_closings 339 = .ok (.iinc 3 1, 3) := by decide +kernel
theorem dX8_closings_342 : decode cX8_closings 342 = .ok (.goto (-44), 3) := by decide +kernel
theorem dX8_closings_345 : decode cX8_closings 345 = .ok (.aload_n 0, 1) := by decide +kernel
theorem dX8_closings_346 : decode cX8_closings 346 = .ok (.getfield 200, 3) := by decide +kernel
theorem dX8_closings_349 : decode cX8_closings 349 = .ok (.ireturn, 1) := by decide +kernel
theorem dX8_closing_0 : decode cX8_closing 0 = .ok (.iload_n 1, 1) := by decide +kernel
theorem dX8_closing_1 : decode cX8_closing 1 = .ok (.ifCond .lt 18, 3) := by decide +kernel
theorem dX8_closing_4 : decode cX8_closing 4 = .ok (.iload_n 1, 1) := by decide +kernel
theorem dX8_closing_5 : decode cX8_closing 5 = .ok (.bipush 6, 2) := by decide +kernel
theorem dX8_closing_7 : decode cX8_closing 7 = .ok (.if_icmp .ge 12, 3) := by decide +kernel
theorem dX8_closing_10 : decode cX8_closing 10 = .ok (.aload_n 0, 1) := by decide +kernel
theorem dX8_closing_11 : decode cX8_closing 11 = .ok (.getfield 106, 3) := by decide +kernel
theorem dX8_closing_14 : decode cX8_closing 14 = .ok (.iload_n 1, 1) := by decide +kernel
theorem dX8_closing_15 : decode cX8_closing 15 = .ok (.iaload, 1) := by decide +kernel
theorem dX8_closing_16 : decode cX8_closing 16 = .ok (.goto 4, 3) := by decide +kernel
theorem dX8_closing_19 : decode cX8_closing 19 = .ok (.iconst (-1), 1) := by decide +kernel
theorem dX8_closing_20 : decode cX8_closing 20 = .ok (.ireturn, 1) := by decide +kernel
theorem dX8_fars_0 : decode cX8_fars 0 = .ok (.iconst 0, 1) := by decide +kernel
theorem dX8_fars_1 : decode cX8_fars 1 = .ok (.istore_n 3, 1) := by decide +kernel
theorem dX8_fars_2 : decode cX8_fars 2 = .ok (.iload_n 3, 1) := by decide +kernel
theorem dX8_fars_3 : decode cX8_fars 3 = .ok (.aload_n 0, 1) := by decide +kernel
theorem dX8_fars_4 : decode cX8_fars 4 = .ok (.getfield 137, 3) := by decide +kernel
theorem dX8_fars_7 : decode cX8_fars 7 = .ok (.if_icmp .ge 26, 3) := by decide +kernel
theorem dX8_fars_10 : decode cX8_fars 10 = .ok (.aload_n 0, 1) := by decide +kernel
theorem dX8_fars_11 : decode cX8_fars 11 = .ok (.getfield 109, 3) := by decide +kernel
theorem dX8_fars_14 : decode cX8_fars 14 = .ok (.iload_n 3, 1) := by decide +kernel
theorem dX8_fars_15 : decode cX8_fars 15 = .ok (.iload_n 3, 1) := by decide +kernel
theorem dX8_fars_16 : decode cX8_fars 16 = .ok (.iload_n 2, 1) := by decide +kernel
theorem dX8_fars_17 : decode cX8_fars 17 = .ok (.if_icmp .ne 7, 3) := by decide +kernel
theorem dX8_fars_20 : decode cX8_fars 20 = .ok (.iconst 0, 1) := by decide +kernel
theorem dX8_fars_21 : decode cX8_fars 21 = .ok (.goto 5, 3) := by decide +kernel
theorem dX8_fars_24 : decode cX8_fars 24 = .ok (.bipush 99, 2) := by decide +kernel
theorem dX8_fars_26 : decode cX8_fars 26 = .ok (.iastore, 1) := by decide +kernel
theorem dX8_fars_27 : decode cX8_fars 27 = .ok (.iinc 3 1, 3) := by decide +kernel
theorem dX8_fars_30 : decode cX8_fars 30 = .ok (.goto (-28), 3) := by decide +kernel
theorem dX8_fars_33 : decode cX8_fars 33 = .ok (.iconst 0, 1) := by decide +kernel
theorem dX8_fars_34 : decode cX8_fars 34 = .ok (.istore_n 3, 1) := by decide +kernel
theorem dX8_fars_35 : decode cX8_fars 35 = .ok (.iload_n 3, 1) := by decide +kernel
theorem dX8_fars_36 : decode cX8_fars 36 = .ok (.bipush 16, 2) := by decide +kernel
theorem dX8_fars_38 : decode cX8_fars 38 = .ok (.if_icmp .ge 108, 3) := by decide +kernel
theorem dX8_fars_41 : decode cX8_fars 41 = .ok (.iconst 0, 1) := by decide +kernel
theorem dX8_fars_42 : decode cX8_fars 42 = .ok (.istore 4, 2) := by decide +kernel
theorem dX8_fars_44 : decode cX8_fars 44 = .ok (.iload 4, 2) := by decide +kernel
theorem dX8_fars_46 : decode cX8_fars 46 = .ok (.aload_n 0, 1) := by decide +kernel
theorem dX8_fars_47 : decode cX8_fars 47 = .ok (.getfield 137, 3) := by decide +kernel
theorem dX8_fars_50 : decode cX8_fars 50 = .ok (.if_icmp .ge 90, 3) := by decide +kernel
theorem dX8_fars_53 : decode cX8_fars 53 = .ok (.iconst 0, 1) := by decide +kernel
theorem dX8_fars_54 : decode cX8_fars 54 = .ok (.istore 5, 2) := by decide +kernel
theorem dX8_fars_56 : decode cX8_fars 56 = .ok (.iload 5, 2) := by decide +kernel
theorem dX8_fars_58 : decode cX8_fars 58 = .ok (.aload_n 0, 1) := by decide +kernel
theorem dX8_fars_59 : decode cX8_fars 59 = .ok (.getfield 137, 3) := by decide +kernel
theorem dX8_fars_62 : decode cX8_fars 62 = .ok (.if_icmp .ge 72, 3) := by decide +kernel
theorem dX8_fars_65 : decode cX8_fars 65 = .ok (.aload_n 0, 1) := by decide +kernel
theorem dX8_fars_66 : decode cX8_fars 66 = .ok (.getfield 34, 3) := by decide +kernel
theorem dX8_fars_69 : decode cX8_fars 69 = .ok (.bipush 16, 2) := by decide +kernel
theorem dX8_fars_71 : decode cX8_fars 71 = .ok (.iload 4, 2) := by decide +kernel
theorem dX8_fars_73 : decode cX8_fars 73 = .ok (.imul, 1) := by decide +kernel
theorem dX8_fars_74 : decode cX8_fars 74 = .ok (.iload 5, 2) := by decide +kernel
theorem dX8_fars_76 : decode cX8_fars 76 = .ok (.iadd, 1) := by decide +kernel
theorem dX8_fars_77 : decode cX8_fars 77 = .ok (.baload, 1) := by decide +kernel
theorem dX8_fars_78 : decode cX8_fars 78 = .ok (.ifCond .eq 50, 3) := by decide +kernel
theorem dX8_fars_81 : decode cX8_fars 81 = .ok (.aload_n 0, 1) := by decide +kernel
theorem dX8_fars_82 : decode cX8_fars 82 = .ok (.iload 4, 2) := by decide +kernel
theorem dX8_fars_84 : decode cX8_fars 84 = .ok (.iload 5, 2) := by decide +kernel
theorem dX8_fars_86 : decode cX8_fars 86 = .ok (.iload_n 1, 1) := by decide +kernel
theorem dX8_fars_87 : decode cX8_fars 87 = .ok (.invokevirtual 180, 3) := by decide +kernel
theorem dX8_fars_90 : decode cX8_fars 90 = .ok (.ifCond .eq 38, 3) := by decide +kernel
theorem dX8_fars_93 : decode cX8_fars 93 = .ok (.aload_n 0, 1) := by decide +kernel
theorem dX8_fars_94 : decode cX8_fars 94 = .ok (.getfield 109, 3) := by decide +kernel
theorem dX8_fars_97 : decode cX8_fars 97 = .ok (.iload 5, 2) := by decide +kernel
theorem dX8_fars_99 : decode cX8_fars 99 = .ok (.iaload, 1) := by decide +kernel
theorem dX8_fars_100 : decode cX8_fars 100 = .ok (.iconst 1, 1) := by decide +kernel
theorem dX8_fars_101 : decode cX8_fars 101 = .ok (.iadd, 1) := by decide +kernel
theorem dX8_fars_102 : decode cX8_fars 102 = .ok (.aload_n 0, 1) := by decide +kernel
theorem dX8_fars_103 : decode cX8_fars 103 = .ok (.getfield 109, 3) := by decide +kernel
theorem dX8_fars_106 : decode cX8_fars 106 = .ok (.iload 4, 2) := by decide +kernel
theorem dX8_fars_108 : decode cX8_fars 108 = .ok (.iaload, 1) := by decide +kernel
theorem dX8_fars_109 : decode cX8_fars 109 = .ok (.if_icmp .ge 19, 3) := by decide +kernel
theorem dX8_fars_112 : decode cX8_fars 112 = .ok (.aload_n 0, 1) := by decide +kernel
theorem dX8_fars_113 : decode cX8_fars 113 = .ok (.getfield 109, 3) := by decide +kernel
theorem dX8_fars_116 : decode cX8_fars 116 = .ok (.iload 4, 2) := by decide +kernel
theorem dX8_fars_118 : decode cX8_fars 118 = .ok (.aload_n 0, 1) := by decide +kernel
theorem dX8_fars_119 : decode cX8_fars 119 = .ok (.getfield 109, 3) := by decide +kernel
theorem dX8_fars_122 : decode cX8_fars 122 = .ok (.iload 5, 2) := by decide +kernel
theorem dX8_fars_124 : decode cX8_fars 124 = .ok (.iaload, 1) := by decide +kernel
theorem dX8_fars_125 : decode cX8_fars 125 = .ok (.iconst 1, 1) := by decide +kernel
theorem dX8_fars_126 : decode cX8_fars 126 = .ok (.iadd, 1) := by decide +kernel
theorem dX8_fars_127 : decode cX8_fars 127 = .ok (.iastore, 1) := by decide +kernel
theorem dX8_fars_128 : decode cX8_fars 128 = .ok (.iinc 5 1, 3) := by decide +kernel
theorem dX8_fars_131 : decode cX8_fars 131 = .ok (.goto (-75), 3) := by decide +kernel
theorem dX8_fars_134 : decode cX8_fars 134 = .ok (.iinc 4 1, 3) := by decide +kernel
theorem dX8_fars_137 : decode cX8_fars 137 = .ok (.goto (-93), 3) := by decide +kernel
theorem dX8_fars_140 : decode cX8_fars 140 = .ok (.iinc 3 1, 3) := by decide +kernel
theorem dX8_fars_143 : decode cX8_fars 143 = .ok (.goto (-108), 3) := by decide +kernel
theorem dX8_fars_146 : decode cX8_fars 146 = .ok (.return_, 1) := by decide +kernel
theorem dX8_soonest_0 : decode cX8_soonest 0 = .ok (.aload_n 0, 1) := by decide +kernel
theorem dX8_soonest_1 : decode cX8_soonest 1 = .ok (.iload_n 1, 1) := by decide +kernel
theorem dX8_soonest_2 : decode cX8_soonest 2 = .ok (.invokevirtual 164, 3) := by decide +kernel
theorem dX8_soonest_5 : decode cX8_soonest 5 = .ok (.ifCond .eq 21, 3) := by decide +kernel
theorem dX8_soonest_8 : decode cX8_soonest 8 = .ok (.aload_n 0, 1) := by decide +kernel
theorem dX8_soonest_9 : decode cX8_soonest 9 = .ok (.getfield 43, 3) := by decide +kernel
theorem dX8_soonest_12 : decode cX8_soonest 12 = .ok (.iload_n 1, 1) := by decide +kernel
theorem dX8_soonest_13 : decode cX8_soonest 13 = .ok (.iaload, 1) := by decide +kernel
theorem dX8_soonest_14 : decode cX8_soonest 14 = .ok (.iconst (-1), 1) := by decide +kernel
theorem dX8_soonest_15 : decode cX8_soonest 15 = .ok (.if_icmp .eq 11, 3) := by decide +kernel
theorem dX8_soonest_18 : decode cX8_soonest 18 = .ok (.aload_n 0, 1) := by decide +kernel
theorem dX8_soonest_19 : decode cX8_soonest 19 = .ok (.iload_n 2, 1) := by decide +kernel
theorem dX8_soonest_20 : decode cX8_soonest 20 = .ok (.invokevirtual 144, 3) := by decide +kernel
theorem dX8_soonest_23 : decode cX8_soonest 23 = .ok (.ifCond .ne 5, 3) := by decide +kernel
theorem dX8_soonest_26 : decode cX8_soonest 26 = .ok (.iconst (-1), 1) := by decide +kernel
theorem dX8_soonest_27 : decode cX8_soonest 27 = .ok (.ireturn, 1) := by decide +kernel
theorem dX8_soonest_28 : decode cX8_soonest 28 = .ok (.aload_n 0, 1) := by decide +kernel
theorem dX8_soonest_29 : decode cX8_soonest 29 = .ok (.iload_n 1, 1) := by decide +kernel
theorem dX8_soonest_30 : decode cX8_soonest 30 = .ok (.iload_n 2, 1) := by decide +kernel
theorem dX8_soonest_31 : decode cX8_soonest 31 = .ok (.invokevirtual 213, 3) := by decide +kernel
theorem dX8_soonest_34 : decode cX8_soonest 34 = .ok (.aload_n 0, 1) := by decide +kernel
theorem dX8_soonest_35 : decode cX8_soonest 35 = .ok (.getfield 109, 3) := by decide +kernel
theorem dX8_soonest_38 : decode cX8_soonest 38 = .ok (.aload_n 0, 1) := by decide +kernel
theorem dX8_soonest_39 : decode cX8_soonest 39 = .ok (.getfield 43, 3) := by decide +kernel
theorem dX8_soonest_42 : decode cX8_soonest 42 = .ok (.iload_n 1, 1) := by decide +kernel
theorem dX8_soonest_43 : decode cX8_soonest 43 = .ok (.iaload, 1) := by decide +kernel
theorem dX8_soonest_44 : decode cX8_soonest 44 = .ok (.iaload, 1) := by decide +kernel
theorem dX8_soonest_45 : decode cX8_soonest 45 = .ok (.bipush 99, 2) := by decide +kernel
theorem dX8_soonest_47 : decode cX8_soonest 47 = .ok (.if_icmp .lt 7, 3) := by decide +kernel
theorem dX8_soonest_50 : decode cX8_soonest 50 = .ok (.iconst (-1), 1) := by decide +kernel
theorem dX8_soonest_51 : decode cX8_soonest 51 = .ok (.goto 14, 3) := by decide +kernel
theorem dX8_soonest_54 : decode cX8_soonest 54 = .ok (.aload_n 0, 1) := by decide +kernel
theorem dX8_soonest_55 : decode cX8_soonest 55 = .ok (.getfield 109, 3) := by decide +kernel
theorem dX8_soonest_58 : decode cX8_soonest 58 = .ok (.aload_n 0, 1) := by decide +kernel
theorem dX8_soonest_59 : decode cX8_soonest 59 = .ok (.getfield 43, 3) := by decide +kernel
theorem dX8_soonest_62 : decode cX8_soonest 62 = .ok (.iload_n 1, 1) := by decide +kernel
theorem dX8_soonest_63 : decode cX8_soonest 63 = .ok (.iaload, 1) := by decide +kernel
theorem dX8_soonest_64 : decode cX8_soonest 64 = .ok (.iaload, 1) := by decide +kernel
theorem dX8_soonest_65 : decode cX8_soonest 65 = .ok (.ireturn, 1) := by decide +kernel
theorem dX8_through_0 : decode cX8_through 0 = .ok (.aload_n 0, 1) := by decide +kernel
theorem dX8_through_1 : decode cX8_through 1 = .ok (.iload_n 1, 1) := by decide +kernel
theorem dX8_through_2 : decode cX8_through 2 = .ok (.iload_n 2, 1) := by decide +kernel
theorem dX8_through_3 : decode cX8_through 3 = .ok (.invokevirtual 216, 3) := by decide +kernel
theorem dX8_through_6 : decode cX8_through 6 = .ok (.istore 4, 2) := by decide +kernel
theorem dX8_through_8 : decode cX8_through 8 = .ok (.iload 4, 2) := by decide +kernel
theorem dX8_through_10 : decode cX8_through 10 = .ok (.iconst (-1), 1) := by decide +kernel
theorem dX8_through_11 : decode cX8_through 11 = .ok (.if_icmp .eq 13, 3) := by decide +kernel
theorem dX8_through_14 : decode cX8_through 14 = .ok (.iload_n 3, 1) := by decide +kernel
theorem dX8_through_15 : decode cX8_through 15 = .ok (.ifCond .lt 9, 3) := by decide +kernel
theorem dX8_through_18 : decode cX8_through 18 = .ok (.iload_n 3, 1) := by decide +kernel
theorem dX8_through_19 : decode cX8_through 19 = .ok (.iload 4, 2) := by decide +kernel
theorem dX8_through_21 : decode cX8_through 21 = .ok (.if_icmp .le 5, 3) := by decide +kernel
theorem dX8_through_24 : decode cX8_through 24 = .ok (.iconst (-1), 1) := by decide +kernel
theorem dX8_through_25 : decode cX8_through 25 = .ok (.ireturn, 1) := by decide +kernel
theorem dX8_through_26 : decode cX8_through 26 = .ok (.aload_n 0, 1) := by decide +kernel
theorem dX8_through_27 : decode cX8_through 27 = .ok (.getfield 43, 3) := by decide +kernel
theorem dX8_through_30 : decode cX8_through 30 = .ok (.iload_n 1, 1) := by decide +kernel
theorem dX8_through_31 : decode cX8_through 31 = .ok (.iaload, 1) := by decide +kernel
theorem dX8_through_32 : decode cX8_through 32 = .ok (.istore 5, 2) := by decide +kernel
theorem dX8_through_34 : decode cX8_through 34 = .ok (.iconst 0, 1) := by decide +kernel
theorem dX8_through_35 : decode cX8_through 35 = .ok (.istore 6, 2) := by decide +kernel
theorem dX8_through_37 : decode cX8_through 37 = .ok (.iload 6, 2) := by decide +kernel
theorem dX8_through_39 : decode cX8_through 39 = .ok (.iload_n 3, 1) := by decide +kernel
theorem dX8_through_40 : decode cX8_through 40 = .ok (.if_icmp .ge 86, 3) := by decide +kernel
theorem dX8_through_43 : decode cX8_through 43 = .ok (.iconst (-1), 1) := by decide +kernel
theorem dX8_through_44 : decode cX8_through 44 = .ok (.istore 7, 2) := by decide +kernel
theorem dX8_through_46 : decode cX8_through 46 = .ok (.aload_n 0, 1) := by decide +kernel
theorem dX8_through_47 : decode cX8_through 47 = .ok (.getfield 137, 3) := by decide +kernel
theorem dX8_through_50 : decode cX8_through 50 = .ok (.iconst 1, 1) := by decide +kernel
theorem dX8_through_51 : decode cX8_through 51 = .ok (.isub, 1) := by decide +kernel
theorem dX8_through_52 : decode cX8_through 52 = .ok (.istore 8, 2) := by decide +kernel
theorem dX8_through_54 : decode cX8_through 54 = .ok (.iload 8, 2) := by decide +kernel
theorem dX8_through_56 : decode cX8_through 56 = .ok (.ifCond .lt 60, 3) := by decide +kernel
theorem dX8_through_59 : decode cX8_through 59 = .ok (.aload_n 0, 1) := by decide +kernel
theorem dX8_through_60 : decode cX8_through 60 = .ok (.getfield 34, 3) := by decide +kernel
theorem dX8_through_63 : decode cX8_through 63 = .ok (.bipush 16, 2) := by decide +kernel
theorem dX8_through_65 : decode cX8_through 65 = .ok (.iload 5, 2) := by decide +kernel
theorem dX8_through_67 : decode cX8_through 67 = .ok (.imul, 1) := by decide +kernel
theorem dX8_through_68 : decode cX8_through 68 = .ok (.iload 8, 2) := by decide +kernel
theorem dX8_through_70 : decode cX8_through 70 = .ok (.iadd, 1) := by decide +kernel
theorem dX8_through_71 : decode cX8_through 71 = .ok (.baload, 1) := by decide +kernel
theorem dX8_through_72 : decode cX8_through 72 = .ok (.ifCond .eq 38, 3) := by decide +kernel
theorem dX8_through_75 : decode cX8_through 75 = .ok (.aload_n 0, 1) := by decide +kernel
theorem dX8_through_76 : decode cX8_through 76 = .ok (.iload 5, 2) := by decide +kernel
theorem dX8_through_78 : decode cX8_through 78 = .ok (.iload 8, 2) := by decide +kernel
theorem dX8_through_80 : decode cX8_through 80 = .ok (.iload_n 1, 1) := by decide +kernel
theorem dX8_through_81 : decode cX8_through 81 = .ok (.invokevirtual 180, 3) := by decide +kernel
theorem dX8_through_84 : decode cX8_through 84 = .ok (.ifCond .eq 26, 3) := by decide +kernel
theorem dX8_through_87 : decode cX8_through 87 = .ok (.aload_n 0, 1) := by decide +kernel
theorem dX8_through_88 : decode cX8_through 88 = .ok (.getfield 109, 3) := by decide +kernel
theorem dX8_through_91 : decode cX8_through 91 = .ok (.iload 8, 2) := by decide +kernel
theorem dX8_through_93 : decode cX8_through 93 = .ok (.iaload, 1) := by decide +kernel
theorem dX8_through_94 : decode cX8_through 94 = .ok (.aload_n 0, 1) := by decide +kernel
theorem dX8_through_95 : decode cX8_through 95 = .ok (.getfield 109, 3) := by decide +kernel
theorem dX8_through_98 : decode cX8_through 98 = .ok (.iload 5, 2) := by decide +kernel
theorem dX8_through_100 : decode cX8_through 100 = .ok (.iaload, 1) := by decide +kernel
theorem dX8_through_101 : decode cX8_through 101 = .ok (.iconst 1, 1) := by decide +kernel
theorem dX8_through_102 : decode cX8_through 102 = .ok (.isub, 1) := by decide +kernel
theorem dX8_through_103 : decode cX8_through 103 = .ok (.if_icmp .ne 7, 3) := by decide +kernel
theorem dX8_through_106 : decode cX8_through 106 = .ok (.iload 8, 2) := by decide +kernel
theorem dX8_through_108 : decode cX8_through 108 = .ok (.istore 7, 2) := by decide +kernel
theorem dX8_through_110 : decode cX8_through 110 = .ok (.iinc 8 (-1), 3) := by decide +kernel
theorem dX8_through_113 : decode cX8_through 113 = .ok (.goto (-59), 3) := by decide +kernel
theorem dX8_through_116 : decode cX8_through 116 = .ok (.iload 7, 2) := by decide +kernel
theorem dX8_through_118 : decode cX8_through 118 = .ok (.istore 5, 2) := by decide +kernel
theorem dX8_through_120 : decode cX8_through 120 = .ok (.iinc 6 1, 3) := by decide +kernel
theorem dX8_through_123 : decode cX8_through 123 = .ok (.goto (-86), 3) := by decide +kernel
theorem dX8_through_126 : decode cX8_through 126 = .ok (.iload 5, 2) := by decide +kernel
theorem dX8_through_128 : decode cX8_through 128 = .ok (.ireturn, 1) := by decide +kernel
theorem dX8_look_0 : decode cX8_look 0 = .ok (.aload_n 0, 1) := by decide +kernel
theorem dX8_look_1 : decode cX8_look 1 = .ok (.iload_n 1, 1) := by decide +kernel
theorem dX8_look_2 : decode cX8_look 2 = .ok (.invokevirtual 140, 3) := by decide +kernel
theorem dX8_look_5 : decode cX8_look 5 = .ok (.ifCond .ne 5, 3) := by decide +kernel
theorem dX8_look_8 : decode cX8_look 8 = .ok (.iconst (-1), 1) := by decide +kernel
theorem dX8_look_9 : decode cX8_look 9 = .ok (.ireturn, 1) := by decide +kernel
theorem dX8_look_10 : decode cX8_look 10 = .ok (.iconst 0, 1) := by decide +kernel
theorem dX8_look_11 : decode cX8_look 11 = .ok (.istore_n 3, 1) := by decide +kernel
theorem dX8_look_12 : decode cX8_look 12 = .ok (.iload_n 2, 1) := by decide +kernel
theorem dX8_look_13 : decode cX8_look 13 = .ok (.tableswitch 262 0 7 #[47, 54, 69, 76, 115, 115, 115, 219], 47) := by decide +kernel
theorem dX8_look_60 : decode cX8_look 60 = .ok (.aload_n 0, 1) := by decide +kernel
theorem dX8_look_61 : decode cX8_look 61 = .ok (.getfield 24, 3) := by decide +kernel
theorem dX8_look_64 : decode cX8_look 64 = .ok (.iload_n 1, 1) := by decide +kernel
theorem dX8_look_65 : decode cX8_look 65 = .ok (.iaload, 1) := by decide +kernel
theorem dX8_look_66 : decode cX8_look 66 = .ok (.ireturn, 1) := by decide +kernel
theorem dX8_look_67 : decode cX8_look 67 = .ok (.aload_n 0, 1) := by decide +kernel
theorem dX8_look_68 : decode cX8_look 68 = .ok (.getfield 30, 3) := by decide +kernel
theorem dX8_look_71 : decode cX8_look 71 = .ok (.iload_n 1, 1) := by decide +kernel
theorem dX8_look_72 : decode cX8_look 72 = .ok (.baload, 1) := by decide +kernel
theorem dX8_look_73 : decode cX8_look 73 = .ok (.ifCond .eq 7, 3) := by decide +kernel
theorem dX8_look_76 : decode cX8_look 76 = .ok (.iconst 1, 1) := by decide +kernel
theorem dX8_look_77 : decode cX8_look 77 = .ok (.goto 4, 3) := by decide +kernel
theorem dX8_look_80 : decode cX8_look 80 = .ok (.iconst 0, 1) := by decide +kernel
theorem dX8_look_81 : decode cX8_look 81 = .ok (.ireturn, 1) := by decide +kernel
theorem dX8_look_82 : decode cX8_look 82 = .ok (.aload_n 0, 1) := by decide +kernel
theorem dX8_look_83 : decode cX8_look 83 = .ok (.getfield 27, 3) := by decide +kernel
theorem dX8_look_86 : decode cX8_look 86 = .ok (.iload_n 1, 1) := by decide +kernel
theorem dX8_look_87 : decode cX8_look 87 = .ok (.iaload, 1) := by decide +kernel
theorem dX8_look_88 : decode cX8_look 88 = .ok (.ireturn, 1) := by decide +kernel
theorem dX8_look_89 : decode cX8_look 89 = .ok (.iconst 0, 1) := by decide +kernel
theorem dX8_look_90 : decode cX8_look 90 = .ok (.istore 4, 2) := by decide +kernel
theorem dX8_look_92 : decode cX8_look 92 = .ok (.iload 4, 2) := by decide +kernel
theorem dX8_look_94 : decode cX8_look 94 = .ok (.aload_n 0, 1) := by decide +kernel
theorem dX8_look_95 : decode cX8_look 95 = .ok (.getfield 150, 3) := by decide +kernel
theorem dX8_look_98 : decode cX8_look 98 = .ok (.if_icmp .ge 28, 3) := by decide +kernel
theorem dX8_look_101 : decode cX8_look 101 = .ok (.iload_n 3, 1) := by decide +kernel
theorem dX8_look_102 : decode cX8_look 102 = .ok (.aload_n 0, 1) := by decide +kernel
theorem dX8_look_103 : decode cX8_look 103 = .ok (.getfield 43, 3) := by decide +kernel
theorem dX8_look_106 : decode cX8_look 106 = .ok (.iload 4, 2) := by decide +kernel
theorem dX8_look_108 : decode cX8_look 108 = .ok (.iaload, 1) := by decide +kernel
theorem dX8_look_109 : decode cX8_look 109 = .ok (.iload_n 1, 1) := by decide +kernel
theorem dX8_look_110 : decode cX8_look 110 = .ok (.if_icmp .ne 7, 3) := by decide +kernel
theorem dX8_look_113 : decode cX8_look 113 = .ok (.iconst 1, 1) := by decide +kernel
theorem dX8_look_114 : decode cX8_look 114 = .ok (.goto 4, 3) := by decide +kernel
theorem dX8_look_117 : decode cX8_look 117 = .ok (.iconst 0, 1) := by decide +kernel
theorem dX8_look_118 : decode cX8_look 118 = .ok (.iadd, 1) := by decide +kernel
theorem dX8_look_119 : decode cX8_look 119 = .ok (.istore_n 3, 1) := by decide +kernel
theorem dX8_look_120 : decode cX8_look 120 = .ok (.iinc 4 1, 3) := by decide +kernel
theorem dX8_look_123 : decode cX8_look 123 = .ok (.goto (-31), 3) := by decide +kernel
theorem dX8_look_126 : decode cX8_look 126 = .ok (.iload_n 3, 1) := by decide +kernel
theorem dX8_look_127 : decode cX8_look 127 = .ok (.ireturn, 1) := by decide +kernel
theorem dX8_look_128 : decode cX8_look 128 = .ok (.iconst 0, 1) := by decide +kernel
theorem dX8_look_129 : decode cX8_look 129 = .ok (.istore 4, 2) := by decide +kernel
theorem dX8_look_131 : decode cX8_look 131 = .ok (.iload 4, 2) := by decide +kernel
theorem dX8_look_133 : decode cX8_look 133 = .ok (.aload_n 0, 1) := by decide +kernel
theorem dX8_look_134 : decode cX8_look 134 = .ok (.getfield 174, 3) := by decide +kernel
theorem dX8_look_137 : decode cX8_look 137 = .ok (.if_icmp .ge 93, 3) := by decide +kernel
theorem dX8_look_140 : decode cX8_look 140 = .ok (.iload_n 3, 1) := by decide +kernel
theorem dX8_look_141 : decode cX8_look 141 = .ok (.iload_n 2, 1) := by decide +kernel
theorem dX8_look_142 : decode cX8_look 142 = .ok (.iconst 4, 1) := by decide +kernel
theorem dX8_look_143 : decode cX8_look 143 = .ok (.if_icmp .ne 23, 3) := by decide +kernel
theorem dX8_look_146 : decode cX8_look 146 = .ok (.aload_n 0, 1) := by decide +kernel
theorem dX8_look_147 : decode cX8_look 147 = .ok (.iload 4, 2) := by decide +kernel
theorem dX8_look_149 : decode cX8_look 149 = .ok (.invokevirtual 171, 3) := by decide +kernel
theorem dX8_look_152 : decode cX8_look 152 = .ok (.ifCond .eq 14, 3) := by decide +kernel
theorem dX8_look_155 : decode cX8_look 155 = .ok (.aload_n 0, 1) := by decide +kernel
theorem dX8_look_156 : decode cX8_look 156 = .ok (.getfield 70, 3) := by decide +kernel
theorem dX8_look_159 : decode cX8_look 159 = .ok (.iload 4, 2) := by decide +kernel
theorem dX8_look_161 : decode cX8_look 161 = .ok (.iaload, 1) := by decide +kernel
theorem dX8_look_162 : decode cX8_look 162 = .ok (.iload_n 1, 1) := by decide +kernel
theorem dX8_look_163 : decode cX8_look 163 = .ok (.if_icmp .eq 54, 3) := by decide +kernel
theorem dX8_look_166 : decode cX8_look 166 = .ok (.iload_n 2, 1) := by decide +kernel
theorem dX8_look_167 : decode cX8_look 167 = .ok (.iconst 5, 1) := by decide +kernel
theorem dX8_look_168 : decode cX8_look 168 = .ok (.if_icmp .ne 23, 3) := by decide +kernel
theorem dX8_look_171 : decode cX8_look 171 = .ok (.aload_n 0, 1) := by decide +kernel
theorem dX8_look_172 : decode cX8_look 172 = .ok (.iload 4, 2) := by decide +kernel
theorem dX8_look_174 : decode cX8_look 174 = .ok (.invokevirtual 171, 3) := by decide +kernel
theorem dX8_look_177 : decode cX8_look 177 = .ok (.ifCond .eq 14, 3) := by decide +kernel
theorem dX8_look_180 : decode cX8_look 180 = .ok (.aload_n 0, 1) := by decide +kernel
theorem dX8_look_181 : decode cX8_look 181 = .ok (.getfield 73, 3) := by decide +kernel
theorem dX8_look_184 : decode cX8_look 184 = .ok (.iload 4, 2) := by decide +kernel
theorem dX8_look_186 : decode cX8_look 186 = .ok (.iaload, 1) := by decide +kernel
theorem dX8_look_187 : decode cX8_look 187 = .ok (.iload_n 1, 1) := by decide +kernel
theorem dX8_look_188 : decode cX8_look 188 = .ok (.if_icmp .eq 29, 3) := by decide +kernel
theorem dX8_look_191 : decode cX8_look 191 = .ok (.iload_n 2, 1) := by decide +kernel
theorem dX8_look_192 : decode cX8_look 192 = .ok (.bipush 6, 2) := by decide +kernel
theorem dX8_look_194 : decode cX8_look 194 = .ok (.if_icmp .ne 27, 3) := by decide +kernel
theorem dX8_look_197 : decode cX8_look 197 = .ok (.aload_n 0, 1) := by decide +kernel
theorem dX8_look_198 : decode cX8_look 198 = .ok (.iload 4, 2) := by decide +kernel
theorem dX8_look_200 : decode cX8_look 200 = .ok (.invokevirtual 177, 3) := by decide +kernel
theorem dX8_look_203 : decode cX8_look 203 = .ok (.ifCond .eq 18, 3) := by decide +kernel
theorem dX8_look_206 : decode cX8_look 206 = .ok (.aload_n 0, 1) := by decide +kernel
theorem dX8_look_207 : decode cX8_look 207 = .ok (.getfield 70, 3) := by decide +kernel
theorem dX8_look_210 : decode cX8_look 210 = .ok (.iload 4, 2) := by decide +kernel
theorem dX8_look_212 : decode cX8_look 212 = .ok (.iaload, 1) := by decide +kernel
theorem dX8_look_213 : decode cX8_look 213 = .ok (.iload_n 1, 1) := by decide +kernel
theorem dX8_look_214 : decode cX8_look 214 = .ok (.if_icmp .ne 7, 3) := by decide +kernel
theorem dX8_look_217 : decode cX8_look 217 = .ok (.iconst 1, 1) := by decide +kernel
theorem dX8_look_218 : decode cX8_look 218 = .ok (.goto 4, 3) := by decide +kernel
theorem dX8_look_221 : decode cX8_look 221 = .ok (.iconst 0, 1) := by decide +kernel
theorem dX8_look_222 : decode cX8_look 222 = .ok (.iadd, 1) := by decide +kernel
theorem dX8_look_223 : decode cX8_look 223 = .ok (.istore_n 3, 1) := by decide +kernel
theorem dX8_look_224 : decode cX8_look 224 = .ok (.iinc 4 1, 3) := by decide +kernel
theorem dX8_look_227 : decode cX8_look 227 = .ok (.goto (-96), 3) := by decide +kernel
theorem dX8_look_230 : decode cX8_look 230 = .ok (.iload_n 3, 1) := by decide +kernel
theorem dX8_look_231 : decode cX8_look 231 = .ok (.ireturn, 1) := by decide +kernel
theorem dX8_look_232 : decode cX8_look 232 = .ok (.iconst 0, 1) := by decide +kernel
theorem dX8_look_233 : decode cX8_look 233 = .ok (.istore 4, 2) := by decide +kernel
theorem dX8_look_235 : decode cX8_look 235 = .ok (.iload 4, 2) := by decide +kernel
theorem dX8_look_237 : decode cX8_look 237 = .ok (.aload_n 0, 1) := by decide +kernel
theorem dX8_look_238 : decode cX8_look 238 = .ok (.getfield 137, 3) := by decide +kernel
theorem dX8_look_241 : decode cX8_look 241 = .ok (.if_icmp .ge 32, 3) := by decide +kernel
theorem dX8_look_244 : decode cX8_look 244 = .ok (.iload_n 3, 1) := by decide +kernel
theorem dX8_look_245 : decode cX8_look 245 = .ok (.aload_n 0, 1) := by decide +kernel
theorem dX8_look_246 : decode cX8_look 246 = .ok (.getfield 34, 3) := by decide +kernel
theorem dX8_look_249 : decode cX8_look 249 = .ok (.bipush 16, 2) := by decide +kernel
theorem dX8_look_251 : decode cX8_look 251 = .ok (.iload_n 1, 1) := by decide +kernel
theorem dX8_look_252 : decode cX8_look 252 = .ok (.imul, 1) := by decide +kernel
theorem dX8_look_253 : decode cX8_look 253 = .ok (.iload 4, 2) := by decide +kernel
theorem dX8_look_255 : decode cX8_look 255 = .ok (.iadd, 1) := by decide +kernel
theorem dX8_look_256 : decode cX8_look 256 = .ok (.baload, 1) := by decide +kernel
theorem dX8_look_257 : decode cX8_look 257 = .ok (.ifCond .eq 7, 3) := by decide +kernel
theorem dX8_look_260 : decode cX8_look 260 = .ok (.iconst 1, 1) := by decide +kernel
theorem dX8_look_261 : decode cX8_look 261 = .ok (.goto 4, 3) := by decide +kernel
theorem dX8_look_264 : decode cX8_look 264 = .ok (.iconst 0, 1) := by decide +kernel
theorem dX8_look_265 : decode cX8_look 265 = .ok (.iadd, 1) := by decide +kernel
theorem dX8_look_266 : decode cX8_look 266 = .ok (.istore_n 3, 1) := by decide +kernel
theorem dX8_look_267 : decode cX8_look 267 = .ok (.iinc 4 1, 3) := by decide +kernel
theorem dX8_look_270 : decode cX8_look 270 = .ok (.goto (-35), 3) := by decide +kernel
theorem dX8_look_273 : decode cX8_look 273 = .ok (.iload_n 3, 1) := by decide +kernel
theorem dX8_look_274 : decode cX8_look 274 = .ok (.ireturn, 1) := by decide +kernel
theorem dX8_look_275 : decode cX8_look 275 = .ok (.iconst (-1), 1) := by decide +kernel
theorem dX8_look_276 : decode cX8_look 276 = .ok (.ireturn, 1) := by decide +kernel
theorem dX8_told_0 : decode cX8_told 0 = .ok (.aload_n 0, 1) := by decide +kernel
theorem dX8_told_1 : decode cX8_told 1 = .ok (.iload_n 1, 1) := by decide +kernel
theorem dX8_told_2 : decode cX8_told 2 = .ok (.invokevirtual 164, 3) := by decide +kernel
theorem dX8_told_5 : decode cX8_told 5 = .ok (.ifCond .ne 5, 3) := by decide +kernel
theorem dX8_told_8 : decode cX8_told 8 = .ok (.iconst (-1), 1) := by decide +kernel
theorem dX8_told_9 : decode cX8_told 9 = .ok (.ireturn, 1) := by decide +kernel
theorem dX8_told_10 : decode cX8_told 10 = .ok (.iload_n 2, 1) := by decide +kernel
theorem dX8_told_11 : decode cX8_told 11 = .ok (.tableswitch 68 0 4 #[33, 40, 47, 54, 61], 33) := by decide +kernel
theorem dX8_told_44 : decode cX8_told 44 = .ok (.aload_n 0, 1) := by decide +kernel
theorem dX8_told_45 : decode cX8_told 45 = .ok (.getfield 37, 3) := by decide +kernel
theorem dX8_told_48 : decode cX8_told 48 = .ok (.iload_n 1, 1) := by decide +kernel
theorem dX8_told_49 : decode cX8_told 49 = .ok (.iaload, 1) := by decide +kernel
theorem dX8_told_50 : decode cX8_told 50 = .ok (.ireturn, 1) := by decide +kernel
theorem dX8_told_51 : decode cX8_told 51 = .ok (.aload_n 0, 1) := by decide +kernel
theorem dX8_told_52 : decode cX8_told 52 = .ok (.getfield 40, 3) := by decide +kernel
theorem dX8_told_55 : decode cX8_told 55 = .ok (.iload_n 1, 1) := by decide +kernel
theorem dX8_told_56 : decode cX8_told 56 = .ok (.iaload, 1) := by decide +kernel
theorem dX8_told_57 : decode cX8_told 57 = .ok (.ireturn, 1) := by decide +kernel
theorem dX8_told_58 : decode cX8_told 58 = .ok (.aload_n 0, 1) := by decide +kernel
theorem dX8_told_59 : decode cX8_told 59 = .ok (.getfield 43, 3) := by decide +kernel
theorem dX8_told_62 : decode cX8_told 62 = .ok (.iload_n 1, 1) := by decide +kernel
theorem dX8_told_63 : decode cX8_told 63 = .ok (.iaload, 1) := by decide +kernel
theorem dX8_told_64 : decode cX8_told 64 = .ok (.ireturn, 1) := by decide +kernel
theorem dX8_told_65 : decode cX8_told 65 = .ok (.aload_n 0, 1) := by decide +kernel
theorem dX8_told_66 : decode cX8_told 66 = .ok (.getfield 46, 3) := by decide +kernel
theorem dX8_told_69 : decode cX8_told 69 = .ok (.iload_n 1, 1) := by decide +kernel
theorem dX8_told_70 : decode cX8_told 70 = .ok (.iaload, 1) := by decide +kernel
theorem dX8_told_71 : decode cX8_told 71 = .ok (.ireturn, 1) := by decide +kernel
theorem dX8_told_72 : decode cX8_told 72 = .ok (.aload_n 0, 1) := by decide +kernel
theorem dX8_told_73 : decode cX8_told 73 = .ok (.getfield 52, 3) := by decide +kernel
theorem dX8_told_76 : decode cX8_told 76 = .ok (.iload_n 1, 1) := by decide +kernel
theorem dX8_told_77 : decode cX8_told 77 = .ok (.iaload, 1) := by decide +kernel
theorem dX8_told_78 : decode cX8_told 78 = .ok (.ireturn, 1) := by decide +kernel
theorem dX8_told_79 : decode cX8_told 79 = .ok (.iconst (-1), 1) := by decide +kernel
theorem dX8_told_80 : decode cX8_told 80 = .ok (.ireturn, 1) := by decide +kernel
theorem dX8_debt_0 : decode cX8_debt 0 = .ok (.iload_n 1, 1) := by decide +kernel
theorem dX8_debt_1 : decode cX8_debt 1 = .ok (.ifCond .lt 11, 3) := by decide +kernel
theorem dX8_debt_4 : decode cX8_debt 4 = .ok (.iload_n 1, 1) := by decide +kernel
theorem dX8_debt_5 : decode cX8_debt 5 = .ok (.aload_n 0, 1) := by decide +kernel
theorem dX8_debt_6 : decode cX8_debt 6 = .ok (.getfield 174, 3) := by decide +kernel
theorem dX8_debt_9 : decode cX8_debt 9 = .ok (.if_icmp .lt 5, 3) := by decide +kernel
theorem dX8_debt_12 : decode cX8_debt 12 = .ok (.iconst (-1), 1) := by decide +kernel
theorem dX8_debt_13 : decode cX8_debt 13 = .ok (.ireturn, 1) := by decide +kernel
theorem dX8_debt_14 : decode cX8_debt 14 = .ok (.iload_n 2, 1) := by decide +kernel
theorem dX8_debt_15 : decode cX8_debt 15 = .ok (.tableswitch 120 0 7 #[45, 52, 59, 66, 73, 80, 106, 113], 45) := by decide +kernel
theorem dX8_debt_60 : decode cX8_debt 60 = .ok (.aload_n 0, 1) := by decide +kernel
theorem dX8_debt_61 : decode cX8_debt 61 = .ok (.getfield 70, 3) := by decide +kernel
theorem dX8_debt_64 : decode cX8_debt 64 = .ok (.iload_n 1, 1) := by decide +kernel
theorem dX8_debt_65 : decode cX8_debt 65 = .ok (.iaload, 1) := by decide +kernel
theorem dX8_debt_66 : decode cX8_debt 66 = .ok (.ireturn, 1) := by decide +kernel
theorem dX8_debt_67 : decode cX8_debt 67 = .ok (.aload_n 0, 1) := by decide +kernel
theorem dX8_debt_68 : decode cX8_debt 68 = .ok (.getfield 73, 3) := by decide +kernel
theorem dX8_debt_71 : decode cX8_debt 71 = .ok (.iload_n 1, 1) := by decide +kernel
theorem dX8_debt_72 : decode cX8_debt 72 = .ok (.iaload, 1) := by decide +kernel
theorem dX8_debt_73 : decode cX8_debt 73 = .ok (.ireturn, 1) := by decide +kernel
theorem dX8_debt_74 : decode cX8_debt 74 = .ok (.aload_n 0, 1) := by decide +kernel
theorem dX8_debt_75 : decode cX8_debt 75 = .ok (.getfield 76, 3) := by decide +kernel
theorem dX8_debt_78 : decode cX8_debt 78 = .ok (.iload_n 1, 1) := by decide +kernel
theorem dX8_debt_79 : decode cX8_debt 79 = .ok (.iaload, 1) := by decide +kernel
theorem dX8_debt_80 : decode cX8_debt 80 = .ok (.ireturn, 1) := by decide +kernel
theorem dX8_debt_81 : decode cX8_debt 81 = .ok (.aload_n 0, 1) := by decide +kernel
theorem dX8_debt_82 : decode cX8_debt 82 = .ok (.getfield 79, 3) := by decide +kernel
theorem dX8_debt_85 : decode cX8_debt 85 = .ok (.iload_n 1, 1) := by decide +kernel
theorem dX8_debt_86 : decode cX8_debt 86 = .ok (.iaload, 1) := by decide +kernel
theorem dX8_debt_87 : decode cX8_debt 87 = .ok (.ireturn, 1) := by decide +kernel
theorem dX8_debt_88 : decode cX8_debt 88 = .ok (.aload_n 0, 1) := by decide +kernel
theorem dX8_debt_89 : decode cX8_debt 89 = .ok (.getfield 82, 3) := by decide +kernel
theorem dX8_debt_92 : decode cX8_debt 92 = .ok (.iload_n 1, 1) := by decide +kernel
theorem dX8_debt_93 : decode cX8_debt 93 = .ok (.iaload, 1) := by decide +kernel
theorem dX8_debt_94 : decode cX8_debt 94 = .ok (.ireturn, 1) := by decide +kernel
theorem dX8_debt_95 : decode cX8_debt 95 = .ok (.aload_n 0, 1) := by decide +kernel
theorem dX8_debt_96 : decode cX8_debt 96 = .ok (.iload_n 1, 1) := by decide +kernel
theorem dX8_debt_97 : decode cX8_debt 97 = .ok (.invokevirtual 171, 3) := by decide +kernel
theorem dX8_debt_100 : decode cX8_debt 100 = .ok (.ifCond .ne 7, 3) := by decide +kernel
theorem dX8_debt_103 : decode cX8_debt 103 = .ok (.iconst 1, 1) := by decide +kernel
theorem dX8_debt_104 : decode cX8_debt 104 = .ok (.goto 16, 3) := by decide +kernel
theorem dX8_debt_107 : decode cX8_debt 107 = .ok (.aload_n 0, 1) := by decide +kernel
theorem dX8_debt_108 : decode cX8_debt 108 = .ok (.iload_n 1, 1) := by decide +kernel
theorem dX8_debt_109 : decode cX8_debt 109 = .ok (.invokevirtual 177, 3) := by decide +kernel
theorem dX8_debt_112 : decode cX8_debt 112 = .ok (.ifCond .eq 7, 3) := by decide +kernel
theorem dX8_debt_115 : decode cX8_debt 115 = .ok (.iconst 2, 1) := by decide +kernel
theorem dX8_debt_116 : decode cX8_debt 116 = .ok (.goto 4, 3) := by decide +kernel
theorem dX8_debt_119 : decode cX8_debt 119 = .ok (.iconst 0, 1) := by decide +kernel
theorem dX8_debt_120 : decode cX8_debt 120 = .ok (.ireturn, 1) := by decide +kernel
theorem dX8_debt_121 : decode cX8_debt 121 = .ok (.aload_n 0, 1) := by decide +kernel
theorem dX8_debt_122 : decode cX8_debt 122 = .ok (.getfield 85, 3) := by decide +kernel
theorem dX8_debt_125 : decode cX8_debt 125 = .ok (.iload_n 1, 1) := by decide +kernel
theorem dX8_debt_126 : decode cX8_debt 126 = .ok (.iaload, 1) := by decide +kernel
theorem dX8_debt_127 : decode cX8_debt 127 = .ok (.ireturn, 1) := by decide +kernel
theorem dX8_debt_128 : decode cX8_debt 128 = .ok (.aload_n 0, 1) := by decide +kernel
theorem dX8_debt_129 : decode cX8_debt 129 = .ok (.getfield 88, 3) := by decide +kernel
theorem dX8_debt_132 : decode cX8_debt 132 = .ok (.iload_n 1, 1) := by decide +kernel
theorem dX8_debt_133 : decode cX8_debt 133 = .ok (.iaload, 1) := by decide +kernel
theorem dX8_debt_134 : decode cX8_debt 134 = .ok (.ireturn, 1) := by decide +kernel
theorem dX8_debt_135 : decode cX8_debt 135 = .ok (.iconst (-1), 1) := by decide +kernel
theorem dX8_debt_136 : decode cX8_debt 136 = .ok (.ireturn, 1) := by decide +kernel
theorem dX8_quarrel_0 : decode cX8_quarrel 0 = .ok (.aload_n 0, 1) := by decide +kernel
theorem dX8_quarrel_1 : decode cX8_quarrel 1 = .ok (.iload_n 1, 1) := by decide +kernel
theorem dX8_quarrel_2 : decode cX8_quarrel 2 = .ok (.invokevirtual 140, 3) := by decide +kernel
theorem dX8_quarrel_5 : decode cX8_quarrel 5 = .ok (.ifCond .eq 16, 3) := by decide +kernel
theorem dX8_quarrel_8 : decode cX8_quarrel 8 = .ok (.aload_n 0, 1) := by decide +kernel
theorem dX8_quarrel_9 : decode cX8_quarrel 9 = .ok (.iload_n 2, 1) := by decide +kernel
theorem dX8_quarrel_10 : decode cX8_quarrel 10 = .ok (.invokevirtual 140, 3) := by decide +kernel
theorem dX8_quarrel_13 : decode cX8_quarrel 13 = .ok (.ifCond .eq 8, 3) := by decide +kernel
theorem dX8_quarrel_16 : decode cX8_quarrel 16 = .ok (.iload_n 1, 1) := by decide +kernel
theorem dX8_quarrel_17 : decode cX8_quarrel 17 = .ok (.iload_n 2, 1) := by decide +kernel
theorem dX8_quarrel_18 : decode cX8_quarrel 18 = .ok (.if_icmp .ne 5, 3) := by decide +kernel
theorem dX8_quarrel_21 : decode cX8_quarrel 21 = .ok (.iconst (-1), 1) := by decide +kernel
theorem dX8_quarrel_22 : decode cX8_quarrel 22 = .ok (.ireturn, 1) := by decide +kernel
theorem dX8_quarrel_23 : decode cX8_quarrel 23 = .ok (.aload_n 0, 1) := by decide +kernel
theorem dX8_quarrel_24 : decode cX8_quarrel 24 = .ok (.iload_n 1, 1) := by decide +kernel
theorem dX8_quarrel_25 : decode cX8_quarrel 25 = .ok (.iload_n 2, 1) := by decide +kernel
theorem dX8_quarrel_26 : decode cX8_quarrel 26 = .ok (.invokevirtual 188, 3) := by decide +kernel
theorem dX8_quarrel_29 : decode cX8_quarrel 29 = .ok (.ifCond .eq 7, 3) := by decide +kernel
theorem dX8_quarrel_32 : decode cX8_quarrel 32 = .ok (.iconst 1, 1) := by decide +kernel
theorem dX8_quarrel_33 : decode cX8_quarrel 33 = .ok (.goto 4, 3) := by decide +kernel
theorem dX8_quarrel_36 : decode cX8_quarrel 36 = .ok (.iconst 0, 1) := by decide +kernel
theorem dX8_quarrel_37 : decode cX8_quarrel 37 = .ok (.ireturn, 1) := by decide +kernel
theorem dX8_count_0 : decode cX8_count 0 = .ok (.iconst 0, 1) := by decide +kernel
theorem dX8_count_1 : decode cX8_count 1 = .ok (.istore_n 2, 1) := by decide +kernel
theorem dX8_count_2 : decode cX8_count 2 = .ok (.iload_n 1, 1) := by decide +kernel
theorem dX8_count_3 : decode cX8_count 3 = .ok (.tableswitch 214 0 13 #[69, 74, 79, 114, 119, 155, 160, 194, 199, 214, 204, 204, 204, 204], 69) := by decide +kernel
theorem dX8_count_72 : decode cX8_count 72 = .ok (.aload_n 0, 1) := by decide +kernel
theorem dX8_count_73 : decode cX8_count 73 = .ok (.getfield 20, 3) := by decide +kernel
theorem dX8_count_76 : decode cX8_count 76 = .ok (.ireturn, 1) := by decide +kernel
theorem dX8_count_77 : decode cX8_count 77 = .ok (.aload_n 0, 1) := by decide +kernel
theorem dX8_count_78 : decode cX8_count 78 = .ok (.getfield 137, 3) := by decide +kernel
theorem dX8_count_81 : decode cX8_count 81 = .ok (.ireturn, 1) := by decide +kernel
theorem dX8_count_82 : decode cX8_count 82 = .ok (.iconst 0, 1) := by decide +kernel
theorem dX8_count_83 : decode cX8_count 83 = .ok (.istore_n 3, 1) := by decide +kernel
theorem dX8_count_84 : decode cX8_count 84 = .ok (.iload_n 3, 1) := by decide +kernel
theorem dX8_count_85 : decode cX8_count 85 = .ok (.aload_n 0, 1) := by decide +kernel
theorem dX8_count_86 : decode cX8_count 86 = .ok (.getfield 137, 3) := by decide +kernel
theorem dX8_count_89 : decode cX8_count 89 = .ok (.if_icmp .ge 26, 3) := by decide +kernel
theorem dX8_count_92 : decode cX8_count 92 = .ok (.iload_n 2, 1) := by decide +kernel
theorem dX8_count_93 : decode cX8_count 93 = .ok (.aload_n 0, 1) := by decide +kernel
theorem dX8_count_94 : decode cX8_count 94 = .ok (.getfield 30, 3) := by decide +kernel
theorem dX8_count_97 : decode cX8_count 97 = .ok (.iload_n 3, 1) := by decide +kernel
theorem dX8_count_98 : decode cX8_count 98 = .ok (.baload, 1) := by decide +kernel
theorem dX8_count_99 : decode cX8_count 99 = .ok (.ifCond .eq 7, 3) := by decide +kernel
theorem dX8_count_102 : decode cX8_count 102 = .ok (.iconst 1, 1) := by decide +kernel
theorem dX8_count_103 : decode cX8_count 103 = .ok (.goto 4, 3) := by decide +kernel
theorem dX8_count_106 : decode cX8_count 106 = .ok (.iconst 0, 1) := by decide +kernel
theorem dX8_count_107 : decode cX8_count 107 = .ok (.iadd, 1) := by decide +kernel
theorem dX8_count_108 : decode cX8_count 108 = .ok (.istore_n 2, 1) := by decide +kernel
theorem dX8_count_109 : decode cX8_count 109 = .ok (.iinc 3 1, 3) := by decide +kernel
theorem dX8_count_112 : decode cX8_count 112 = .ok (.goto (-28), 3) := by decide +kernel
theorem dX8_count_115 : decode cX8_count 115 = .ok (.iload_n 2, 1) := by decide +kernel
theorem dX8_count_116 : decode cX8_count 116 = .ok (.ireturn, 1) := by decide +kernel
theorem dX8_count_117 : decode cX8_count 117 = .ok (.aload_n 0, 1) := by decide +kernel
theorem dX8_count_118 : decode cX8_count 118 = .ok (.getfield 150, 3) := by decide +kernel
theorem dX8_count_121 : decode cX8_count 121 = .ok (.ireturn, 1) := by decide +kernel
theorem dX8_count_122 : decode cX8_count 122 = .ok (.iconst 0, 1) := by decide +kernel
theorem dX8_count_123 : decode cX8_count 123 = .ok (.istore_n 3, 1) := by decide +kernel
theorem dX8_count_124 : decode cX8_count 124 = .ok (.iload_n 3, 1) := by decide +kernel
theorem dX8_count_125 : decode cX8_count 125 = .ok (.aload_n 0, 1) := by decide +kernel
theorem dX8_count_126 : decode cX8_count 126 = .ok (.getfield 150, 3) := by decide +kernel
theorem dX8_count_129 : decode cX8_count 129 = .ok (.if_icmp .ge 27, 3) := by decide +kernel
theorem dX8_count_132 : decode cX8_count 132 = .ok (.iload_n 2, 1) := by decide +kernel
theorem dX8_count_133 : decode cX8_count 133 = .ok (.aload_n 0, 1) := by decide +kernel
theorem dX8_count_134 : decode cX8_count 134 = .ok (.getfield 43, 3) := by decide +kernel
theorem dX8_count_137 : decode cX8_count 137 = .ok (.iload_n 3, 1) := by decide +kernel
theorem dX8_count_138 : decode cX8_count 138 = .ok (.iaload, 1) := by decide +kernel
theorem dX8_count_139 : decode cX8_count 139 = .ok (.iconst (-1), 1) := by decide +kernel
theorem dX8_count_140 : decode cX8_count 140 = .ok (.if_icmp .ne 7, 3) := by decide +kernel
theorem dX8_count_143 : decode cX8_count 143 = .ok (.iconst 1, 1) := by decide +kernel
theorem dX8_count_144 : decode cX8_count 144 = .ok (.goto 4, 3) := by decide +kernel
theorem dX8_count_147 : decode cX8_count 147 = .ok (.iconst 0, 1) := by decide +kernel
theorem dX8_count_148 : decode cX8_count 148 = .ok (.iadd, 1) := by decide +kernel
theorem dX8_count_149 : decode cX8_count 149 = .ok (.istore_n 2, 1) := by decide +kernel
theorem dX8_count_150 : decode cX8_count 150 = .ok (.iinc 3 1, 3) := by decide +kernel
theorem dX8_count_153 : decode cX8_count 153 = .ok (.goto (-29), 3) := by decide +kernel
theorem dX8_count_156 : decode cX8_count 156 = .ok (.iload_n 2, 1) := by decide +kernel
theorem dX8_count_157 : decode cX8_count 157 = .ok (.ireturn, 1) := by decide +kernel
theorem dX8_count_158 : decode cX8_count 158 = .ok (.aload_n 0, 1) := by decide +kernel
theorem dX8_count_159 : decode cX8_count 159 = .ok (.getfield 174, 3) := by decide +kernel
theorem dX8_count_162 : decode cX8_count 162 = .ok (.ireturn, 1) := by decide +kernel
theorem dX8_count_163 : decode cX8_count 163 = .ok (.iconst 0, 1) := by decide +kernel
theorem dX8_count_164 : decode cX8_count 164 = .ok (.istore_n 3, 1) := by decide +kernel
theorem dX8_count_165 : decode cX8_count 165 = .ok (.iload_n 3, 1) := by decide +kernel
theorem dX8_count_166 : decode cX8_count 166 = .ok (.aload_n 0, 1) := by decide +kernel
theorem dX8_count_167 : decode cX8_count 167 = .ok (.getfield 174, 3) := by decide +kernel
theorem dX8_count_170 : decode cX8_count 170 = .ok (.if_icmp .ge 25, 3) := by decide +kernel
theorem dX8_count_173 : decode cX8_count 173 = .ok (.iload_n 2, 1) := by decide +kernel
theorem dX8_count_174 : decode cX8_count 174 = .ok (.aload_n 0, 1) := by decide +kernel
theorem dX8_count_175 : decode cX8_count 175 = .ok (.iload_n 3, 1) := by decide +kernel
theorem dX8_count_176 : decode cX8_count 176 = .ok (.invokevirtual 171, 3) := by decide +kernel
theorem dX8_count_179 : decode cX8_count 179 = .ok (.ifCond .eq 7, 3) := by decide +kernel
theorem dX8_count_182 : decode cX8_count 182 = .ok (.iconst 1, 1) := by decide +kernel
theorem dX8_count_183 : decode cX8_count 183 = .ok (.goto 4, 3) := by decide +kernel
theorem dX8_count_186 : decode cX8_count 186 = .ok (.iconst 0, 1) := by decide +kernel
theorem dX8_count_187 : decode cX8_count 187 = .ok (.iadd, 1) := by decide +kernel
theorem dX8_count_188 : decode cX8_count 188 = .ok (.istore_n 2, 1) := by decide +kernel
theorem dX8_count_189 : decode cX8_count 189 = .ok (.iinc 3 1, 3) := by decide +kernel
theorem dX8_count_192 : decode cX8_count 192 = .ok (.goto (-27), 3) := by decide +kernel
theorem dX8_count_195 : decode cX8_count 195 = .ok (.iload_n 2, 1) := by decide +kernel
theorem dX8_count_196 : decode cX8_count 196 = .ok (.ireturn, 1) := by decide +kernel
theorem dX8_count_197 : decode cX8_count 197 = .ok (.aload_n 0, 1) := by decide +kernel
theorem dX8_count_198 : decode cX8_count 198 = .ok (.getfield 153, 3) := by decide +kernel
theorem dX8_count_201 : decode cX8_count 201 = .ok (.ireturn, 1) := by decide +kernel
theorem dX8_count_202 : decode cX8_count 202 = .ok (.aload_n 0, 1) := by decide +kernel
theorem dX8_count_203 : decode cX8_count 203 = .ok (.getfield 116, 3) := by decide +kernel
theorem dX8_count_206 : decode cX8_count 206 = .ok (.ireturn, 1) := by decide +kernel
theorem dX8_count_207 : decode cX8_count 207 = .ok (.aload_n 0, 1) := by decide +kernel
theorem dX8_count_208 : decode cX8_count 208 = .ok (.getfield 13, 3) := by decide +kernel
theorem dX8_count_211 : decode cX8_count 211 = .ok (.iload_n 1, 1) := by decide +kernel
theorem dX8_count_212 : decode cX8_count 212 = .ok (.bipush 10, 2) := by decide +kernel
theorem dX8_count_214 : decode cX8_count 214 = .ok (.isub, 1) := by decide +kernel
theorem dX8_count_215 : decode cX8_count 215 = .ok (.iaload, 1) := by decide +kernel
theorem dX8_count_216 : decode cX8_count 216 = .ok (.ireturn, 1) := by decide +kernel
theorem dX8_count_217 : decode cX8_count 217 = .ok (.iconst (-1), 1) := by decide +kernel
theorem dX8_count_218 : decode cX8_count 218 = .ok (.ireturn, 1) := by decide +kernel
theorem dJ6_bitCount_0f7a4_0 : decode cJ6_bitCount_0f7a4 0 = .ok (.iload_n 0, 1) := by decide +kernel
theorem dJ6_bitCount_0f7a4_1 : decode cJ6_bitCount_0f7a4 1 = .ok (.iload_n 0, 1) := by decide +kernel
theorem dJ6_bitCount_0f7a4_2 : decode cJ6_bitCount_0f7a4 2 = .ok (.iconst 1, 1) := by decide +kernel
theorem dJ6_bitCount_0f7a4_3 : decode cJ6_bitCount_0f7a4 3 = .ok (.iushr, 1) := by decide +kernel
theorem dJ6_bitCount_0f7a4_4 : decode cJ6_bitCount_0f7a4 4 = .ok (.ldc_w 265, 3) := by decide +kernel
theorem dJ6_bitCount_0f7a4_7 : decode cJ6_bitCount_0f7a4 7 = .ok (.iand, 1) := by decide +kernel
theorem dJ6_bitCount_0f7a4_8 : decode cJ6_bitCount_0f7a4 8 = .ok (.isub, 1) := by decide +kernel
theorem dJ6_bitCount_0f7a4_9 : decode cJ6_bitCount_0f7a4 9 = .ok (.istore_n 0, 1) := by decide +kernel
theorem dJ6_bitCount_0f7a4_10 : decode cJ6_bitCount_0f7a4 10 = .ok (.iload_n 0, 1) := by decide +kernel
theorem dJ6_bitCount_0f7a4_11 : decode cJ6_bitCount_0f7a4 11 = .ok (.ldc_w 266, 3) := by decide +kernel
theorem dJ6_bitCount_0f7a4_14 : decode cJ6_bitCount_0f7a4 14 = .ok (.iand, 1) := by decide +kernel
theorem dJ6_bitCount_0f7a4_15 : decode cJ6_bitCount_0f7a4 15 = .ok (.iload_n 0, 1) := by decide +kernel
theorem dJ6_bitCount_0f7a4_16 : decode cJ6_bitCount_0f7a4 16 = .ok (.iconst 2, 1) := by decide +kernel
theorem dJ6_bitCount_0f7a4_17 : decode cJ6_bitCount_0f7a4 17 = .ok (.iushr, 1) := by decide +kernel
theorem dJ6_bitCount_0f7a4_18 : decode cJ6_bitCount_0f7a4 18 = .ok (.ldc_w 266, 3) := by decide +kernel
theorem dJ6_bitCount_0f7a4_21 : decode cJ6_bitCount_0f7a4 21 = .ok (.iand, 1) := by decide +kernel
theorem dJ6_bitCount_0f7a4_22 : decode cJ6_bitCount_0f7a4 22 = .ok (.iadd, 1) := by decide +kernel
theorem dJ6_bitCount_0f7a4_23 : decode cJ6_bitCount_0f7a4 23 = .ok (.istore_n 0, 1) := by decide +kernel
theorem dJ6_bitCount_0f7a4_24 : decode cJ6_bitCount_0f7a4 24 = .ok (.iload_n 0, 1) := by decide +kernel
theorem dJ6_bitCount_0f7a4_25 : decode cJ6_bitCount_0f7a4 25 = .ok (.iload_n 0, 1) := by decide +kernel
theorem dJ6_bitCount_0f7a4_26 : decode cJ6_bitCount_0f7a4 26 = .ok (.iconst 4, 1) := by decide +kernel
theorem dJ6_bitCount_0f7a4_27 : decode cJ6_bitCount_0f7a4 27 = .ok (.iushr, 1) := by decide +kernel
theorem dJ6_bitCount_0f7a4_28 : decode cJ6_bitCount_0f7a4 28 = .ok (.iadd, 1) := by decide +kernel
theorem dJ6_bitCount_0f7a4_29 : decode cJ6_bitCount_0f7a4 29 = .ok (.ldc_w 267, 3) := by decide +kernel
theorem dJ6_bitCount_0f7a4_32 : decode cJ6_bitCount_0f7a4 32 = .ok (.iand, 1) := by decide +kernel
theorem dJ6_bitCount_0f7a4_33 : decode cJ6_bitCount_0f7a4 33 = .ok (.istore_n 0, 1) := by decide +kernel
theorem dJ6_bitCount_0f7a4_34 : decode cJ6_bitCount_0f7a4 34 = .ok (.iload_n 0, 1) := by decide +kernel
theorem dJ6_bitCount_0f7a4_35 : decode cJ6_bitCount_0f7a4 35 = .ok (.iload_n 0, 1) := by decide +kernel
theorem dJ6_bitCount_0f7a4_36 : decode cJ6_bitCount_0f7a4 36 = .ok (.bipush 8, 2) := by decide +kernel
theorem dJ6_bitCount_0f7a4_38 : decode cJ6_bitCount_0f7a4 38 = .ok (.iushr, 1) := by decide +kernel
theorem dJ6_bitCount_0f7a4_39 : decode cJ6_bitCount_0f7a4 39 = .ok (.iadd, 1) := by decide +kernel
theorem dJ6_bitCount_0f7a4_40 : decode cJ6_bitCount_0f7a4 40 = .ok (.istore_n 0, 1) := by decide +kernel
theorem dJ6_bitCount_0f7a4_41 : decode cJ6_bitCount_0f7a4 41 = .ok (.iload_n 0, 1) := by decide +kernel
theorem dJ6_bitCount_0f7a4_42 : decode cJ6_bitCount_0f7a4 42 = .ok (.iload_n 0, 1) := by decide +kernel
theorem dJ6_bitCount_0f7a4_43 : decode cJ6_bitCount_0f7a4 43 = .ok (.bipush 16, 2) := by decide +kernel
theorem dJ6_bitCount_0f7a4_45 : decode cJ6_bitCount_0f7a4 45 = .ok (.iushr, 1) := by decide +kernel
theorem dJ6_bitCount_0f7a4_46 : decode cJ6_bitCount_0f7a4 46 = .ok (.iadd, 1) := by decide +kernel
theorem dJ6_bitCount_0f7a4_47 : decode cJ6_bitCount_0f7a4 47 = .ok (.istore_n 0, 1) := by decide +kernel
theorem dJ6_bitCount_0f7a4_48 : decode cJ6_bitCount_0f7a4 48 = .ok (.iload_n 0, 1) := by decide +kernel
theorem dJ6_bitCount_0f7a4_49 : decode cJ6_bitCount_0f7a4 49 = .ok (.bipush 63, 2) := by decide +kernel
theorem dJ6_bitCount_0f7a4_51 : decode cJ6_bitCount_0f7a4 51 = .ok (.iand, 1) := by decide +kernel
theorem dJ6_bitCount_0f7a4_52 : decode cJ6_bitCount_0f7a4 52 = .ok (.ireturn, 1) := by decide +kernel
theorem dJ9_abs_0f7a4_0 : decode cJ9_abs_0f7a4 0 = .ok (.iload_n 0, 1) := by decide +kernel
theorem dJ9_abs_0f7a4_1 : decode cJ9_abs_0f7a4 1 = .ok (.ifCond .ge 8, 3) := by decide +kernel
theorem dJ9_abs_0f7a4_4 : decode cJ9_abs_0f7a4 4 = .ok (.iload_n 0, 1) := by decide +kernel
theorem dJ9_abs_0f7a4_5 : decode cJ9_abs_0f7a4 5 = .ok (.ineg, 1) := by decide +kernel
theorem dJ9_abs_0f7a4_6 : decode cJ9_abs_0f7a4 6 = .ok (.goto 4, 3) := by decide +kernel
theorem dJ9_abs_0f7a4_9 : decode cJ9_abs_0f7a4 9 = .ok (.iload_n 0, 1) := by decide +kernel
theorem dJ9_abs_0f7a4_10 : decode cJ9_abs_0f7a4 10 = .ok (.ireturn, 1) := by decide +kernel
theorem dJ9_max_7cf53_0 : decode cJ9_max_7cf53 0 = .ok (.iload_n 0, 1) := by decide +kernel
theorem dJ9_max_7cf53_1 : decode cJ9_max_7cf53 1 = .ok (.iload_n 1, 1) := by decide +kernel
theorem dJ9_max_7cf53_2 : decode cJ9_max_7cf53 2 = .ok (.if_icmp .lt 7, 3) := by decide +kernel
theorem dJ9_max_7cf53_5 : decode cJ9_max_7cf53 5 = .ok (.iload_n 0, 1) := by decide +kernel
theorem dJ9_max_7cf53_6 : decode cJ9_max_7cf53 6 = .ok (.goto 4, 3) := by decide +kernel
theorem dJ9_max_7cf53_9 : decode cJ9_max_7cf53 9 = .ok (.iload_n 1, 1) := by decide +kernel
theorem dJ9_max_7cf53_10 : decode cJ9_max_7cf53 10 = .ok (.ireturn, 1) := by decide +kernel
theorem dJ9_min_7cf53_0 : decode cJ9_min_7cf53 0 = .ok (.iload_n 0, 1) := by decide +kernel
theorem dJ9_min_7cf53_1 : decode cJ9_min_7cf53 1 = .ok (.iload_n 1, 1) := by decide +kernel
theorem dJ9_min_7cf53_2 : decode cJ9_min_7cf53 2 = .ok (.if_icmp .gt 7, 3) := by decide +kernel
theorem dJ9_min_7cf53_5 : decode cJ9_min_7cf53 5 = .ok (.iload_n 0, 1) := by decide +kernel
theorem dJ9_min_7cf53_6 : decode cJ9_min_7cf53 6 = .ok (.goto 4, 3) := by decide +kernel
theorem dJ9_min_7cf53_9 : decode cJ9_min_7cf53 9 = .ok (.iload_n 1, 1) := by decide +kernel
theorem dJ9_min_7cf53_10 : decode cJ9_min_7cf53 10 = .ok (.ireturn, 1) := by decide +kernel
theorem dJ0_length_8abf5_0 : decode cJ0_length_8abf5 0 = .ok (.aload_n 0, 1) := by decide +kernel
theorem dJ0_length_8abf5_1 : decode cJ0_length_8abf5 1 = .ok (.getfield 9, 3) := by decide +kernel
theorem dJ0_length_8abf5_4 : decode cJ0_length_8abf5 4 = .ok (.arraylength, 1) := by decide +kernel
theorem dJ0_length_8abf5_5 : decode cJ0_length_8abf5 5 = .ok (.aload_n 0, 1) := by decide +kernel
theorem dJ0_length_8abf5_6 : decode cJ0_length_8abf5 6 = .ok (.invokevirtual 335, 3) := by decide +kernel
theorem dJ0_length_8abf5_9 : decode cJ0_length_8abf5 9 = .ok (.ishr, 1) := by decide +kernel
theorem dJ0_length_8abf5_10 : decode cJ0_length_8abf5 10 = .ok (.ireturn, 1) := by decide +kernel
theorem dJ0_charAt_5068e_0 : decode cJ0_charAt_5068e 0 = .ok (.aload_n 0, 1) := by decide +kernel
theorem dJ0_charAt_5068e_1 : decode cJ0_charAt_5068e 1 = .ok (.invokevirtual 492, 3) := by decide +kernel
theorem dJ0_charAt_5068e_4 : decode cJ0_charAt_5068e 4 = .ok (.ifCond .eq 12, 3) := by decide +kernel
theorem dJ0_charAt_5068e_7 : decode cJ0_charAt_5068e 7 = .ok (.aload_n 0, 1) := by decide +kernel
theorem dJ0_charAt_5068e_8 : decode cJ0_charAt_5068e 8 = .ok (.getfield 9, 3) := by decide +kernel
theorem dJ0_charAt_5068e_11 : decode cJ0_charAt_5068e 11 = .ok (.iload_n 1, 1) := by decide +kernel
theorem dJ0_charAt_5068e_12 : decode cJ0_charAt_5068e 12 = .ok (.invokestatic 495, 3) := by decide +kernel
theorem dJ0_charAt_5068e_15 : decode cJ0_charAt_5068e 15 = .ok (.ireturn, 1) := by decide +kernel
theorem dJ0_charAt_5068e_16 : decode cJ0_charAt_5068e 16 = .ok (.aload_n 0, 1) := by decide +kernel
theorem dJ0_charAt_5068e_17 : decode cJ0_charAt_5068e 17 = .ok (.getfield 9, 3) := by decide +kernel
theorem dJ0_charAt_5068e_20 : decode cJ0_charAt_5068e 20 = .ok (.iload_n 1, 1) := by decide +kernel
theorem dJ0_charAt_5068e_21 : decode cJ0_charAt_5068e 21 = .ok (.invokestatic 498, 3) := by decide +kernel
theorem dJ0_charAt_5068e_24 : decode cJ0_charAt_5068e 24 = .ok (.ireturn, 1) := by decide +kernel
theorem dJ0_coder_7d493_0 : decode cJ0_coder_7d493 0 = .ok (.getstatic 38, 3) := by decide +kernel
theorem dJ0_coder_7d493_3 : decode cJ0_coder_7d493 3 = .ok (.ifCond .eq 10, 3) := by decide +kernel
theorem dJ0_coder_7d493_6 : decode cJ0_coder_7d493 6 = .ok (.aload_n 0, 1) := by decide +kernel
theorem dJ0_coder_7d493_7 : decode cJ0_coder_7d493 7 = .ok (.getfield 15, 3) := by decide +kernel
theorem dJ0_coder_7d493_10 : decode cJ0_coder_7d493 10 = .ok (.goto 4, 3) := by decide +kernel
theorem dJ0_coder_7d493_13 : decode cJ0_coder_7d493 13 = .ok (.iconst 1, 1) := by decide +kernel
theorem dJ0_coder_7d493_14 : decode cJ0_coder_7d493 14 = .ok (.ireturn, 1) := by decide +kernel
theorem dJ0_isLatin1_aae02_0 : decode cJ0_isLatin1_aae02 0 = .ok (.getstatic 38, 3) := by decide +kernel
theorem dJ0_isLatin1_aae02_3 : decode cJ0_isLatin1_aae02 3 = .ok (.ifCond .eq 14, 3) := by decide +kernel
theorem dJ0_isLatin1_aae02_6 : decode cJ0_isLatin1_aae02 6 = .ok (.aload_n 0, 1) := by decide +kernel
theorem dJ0_isLatin1_aae02_7 : decode cJ0_isLatin1_aae02 7 = .ok (.getfield 15, 3) := by decide +kernel
theorem dJ0_isLatin1_aae02_10 : decode cJ0_isLatin1_aae02 10 = .ok (.ifCond .ne 7, 3) := by decide +kernel
theorem dJ0_isLatin1_aae02_13 : decode cJ0_isLatin1_aae02 13 = .ok (.iconst 1, 1) := by decide +kernel
theorem dJ0_isLatin1_aae02_14 : decode cJ0_isLatin1_aae02 14 = .ok (.goto 4, 3) := by decide +kernel
theorem dJ0_isLatin1_aae02_17 : decode cJ0_isLatin1_aae02 17 = .ok (.iconst 0, 1) := by decide +kernel
theorem dJ0_isLatin1_aae02_18 : decode cJ0_isLatin1_aae02 18 = .ok (.ireturn, 1) := by decide +kernel
theorem dJ0_checkIndex_df160_0 : decode cJ0_checkIndex_df160 0 = .ok (.iload_n 0, 1) := by decide +kernel
theorem dJ0_checkIndex_df160_1 : decode cJ0_checkIndex_df160 1 = .ok (.iload_n 1, 1) := by decide +kernel
theorem dJ0_checkIndex_df160_2 : decode cJ0_checkIndex_df160 2 = .ok (.getstatic 1053, 3) := by decide +kernel
theorem dJ0_checkIndex_df160_5 : decode cJ0_checkIndex_df160 5 = .ok (.invokestatic 1059, 3) := by decide +kernel
theorem dJ0_checkIndex_df160_8 : decode cJ0_checkIndex_df160 8 = .ok (.pop, 1) := by decide +kernel
theorem dJ0_checkIndex_df160_9 : decode cJ0_checkIndex_df160 9 = .ok (.return_, 1) := by decide +kernel
theorem dJ1_charAt_3b067_0 : decode cJ1_charAt_3b067 0 = .ok (.iload_n 1, 1) := by decide +kernel
theorem dJ1_charAt_3b067_1 : decode cJ1_charAt_3b067 1 = .ok (.aload_n 0, 1) := by decide +kernel
theorem dJ1_charAt_3b067_2 : decode cJ1_charAt_3b067 2 = .ok (.arraylength, 1) := by decide +kernel
theorem dJ1_charAt_3b067_3 : decode cJ1_charAt_3b067 3 = .ok (.invokestatic 9, 3) := by decide +kernel
theorem dJ1_charAt_3b067_6 : decode cJ1_charAt_3b067 6 = .ok (.aload_n 0, 1) := by decide +kernel
theorem dJ1_charAt_3b067_7 : decode cJ1_charAt_3b067 7 = .ok (.iload_n 1, 1) := by decide +kernel
theorem dJ1_charAt_3b067_8 : decode cJ1_charAt_3b067 8 = .ok (.baload, 1) := by decide +kernel
theorem dJ1_charAt_3b067_9 : decode cJ1_charAt_3b067 9 = .ok (.sipush 255, 3) := by decide +kernel
theorem dJ1_charAt_3b067_12 : decode cJ1_charAt_3b067 12 = .ok (.iand, 1) := by decide +kernel
theorem dJ1_charAt_3b067_13 : decode cJ1_charAt_3b067 13 = .ok (.i2c, 1) := by decide +kernel
theorem dJ1_charAt_3b067_14 : decode cJ1_charAt_3b067 14 = .ok (.ireturn, 1) := by decide +kernel
theorem dJ2_getChar_3b067_0 : decode cJ2_getChar_3b067 0 = .ok (.getstatic 44, 3) := by decide +kernel
theorem dJ2_getChar_3b067_3 : decode cJ2_getChar_3b067 3 = .ok (.ifCond .ne 25, 3) := by decide +kernel
theorem dJ2_getChar_3b067_6 : decode cJ2_getChar_3b067 6 = .ok (.iload_n 1, 1) := by decide +kernel
theorem dJ2_getChar_3b067_7 : decode cJ2_getChar_3b067 7 = .ok (.ifCond .lt 11, 3) := by decide +kernel
theorem dJ2_getChar_3b067_10 : decode cJ2_getChar_3b067 10 = .ok (.iload_n 1, 1) := by decide +kernel
theorem dJ2_getChar_3b067_11 : decode cJ2_getChar_3b067 11 = .ok (.aload_n 0, 1) := by decide +kernel
theorem dJ2_getChar_3b067_12 : decode cJ2_getChar_3b067 12 = .ok (.invokestatic 48, 3) := by decide +kernel
theorem dJ2_getChar_3b067_15 : decode cJ2_getChar_3b067 15 = .ok (.if_icmp .lt 13, 3) := by decide +kernel
theorem dJ2_getChar_3b067_18 : decode cJ2_getChar_3b067 18 = .ok (.new 52, 3) := by decide +kernel
theorem dJ2_getChar_3b067_21 : decode cJ2_getChar_3b067 21 = .ok (.dup, 1) := by decide +kernel
theorem dJ2_getChar_3b067_22 : decode cJ2_getChar_3b067 22 = .ok (.ldc 54, 2) := by decide +kernel
theorem dJ2_getChar_3b067_24 : decode cJ2_getChar_3b067 24 = .ok (.invokespecial 56, 3) := by decide +kernel
theorem dJ2_getChar_3b067_27 : decode cJ2_getChar_3b067 27 = .ok (.athrow, 1) := by decide +kernel
theorem dJ2_getChar_3b067_28 : decode cJ2_getChar_3b067 28 = .ok (.iload_n 1, 1) := by decide +kernel
theorem dJ2_getChar_3b067_29 : decode cJ2_getChar_3b067 29 = .ok (.iconst 1, 1) := by decide +kernel
theorem dJ2_getChar_3b067_30 : decode cJ2_getChar_3b067 30 = .ok (.ishl, 1) := by decide +kernel
theorem dJ2_getChar_3b067_31 : decode cJ2_getChar_3b067 31 = .ok (.istore_n 1, 1) := by decide +kernel
theorem dJ2_getChar_3b067_32 : decode cJ2_getChar_3b067 32 = .ok (.aload_n 0, 1) := by decide +kernel
theorem dJ2_getChar_3b067_33 : decode cJ2_getChar_3b067 33 = .ok (.iload_n 1, 1) := by decide +kernel
theorem dJ2_getChar_3b067_34 : decode cJ2_getChar_3b067 34 = .ok (.iinc 1 1, 3) := by decide +kernel
theorem dJ2_getChar_3b067_37 : decode cJ2_getChar_3b067 37 = .ok (.baload, 1) := by decide +kernel
theorem dJ2_getChar_3b067_38 : decode cJ2_getChar_3b067 38 = .ok (.sipush 255, 3) := by decide +kernel
theorem dJ2_getChar_3b067_41 : decode cJ2_getChar_3b067 41 = .ok (.iand, 1) := by decide +kernel
theorem dJ2_getChar_3b067_42 : decode cJ2_getChar_3b067 42 = .ok (.getstatic 59, 3) := by decide +kernel
theorem dJ2_getChar_3b067_45 : decode cJ2_getChar_3b067 45 = .ok (.ishl, 1) := by decide +kernel
theorem dJ2_getChar_3b067_46 : decode cJ2_getChar_3b067 46 = .ok (.aload_n 0, 1) := by decide +kernel
theorem dJ2_getChar_3b067_47 : decode cJ2_getChar_3b067 47 = .ok (.iload_n 1, 1) := by decide +kernel
theorem dJ2_getChar_3b067_48 : decode cJ2_getChar_3b067 48 = .ok (.baload, 1) := by decide +kernel
theorem dJ2_getChar_3b067_49 : decode cJ2_getChar_3b067 49 = .ok (.sipush 255, 3) := by decide +kernel
theorem dJ2_getChar_3b067_52 : decode cJ2_getChar_3b067 52 = .ok (.iand, 1) := by decide +kernel
theorem dJ2_getChar_3b067_53 : decode cJ2_getChar_3b067 53 = .ok (.getstatic 63, 3) := by decide +kernel
theorem dJ2_getChar_3b067_56 : decode cJ2_getChar_3b067 56 = .ok (.ishl, 1) := by decide +kernel
theorem dJ2_getChar_3b067_57 : decode cJ2_getChar_3b067 57 = .ok (.ior, 1) := by decide +kernel
theorem dJ2_getChar_3b067_58 : decode cJ2_getChar_3b067 58 = .ok (.i2c, 1) := by decide +kernel
theorem dJ2_getChar_3b067_59 : decode cJ2_getChar_3b067 59 = .ok (.ireturn, 1) := by decide +kernel
theorem dJ2_length_9d52b_0 : decode cJ2_length_9d52b 0 = .ok (.aload_n 0, 1) := by decide +kernel
theorem dJ2_length_9d52b_1 : decode cJ2_length_9d52b 1 = .ok (.arraylength, 1) := by decide +kernel
theorem dJ2_length_9d52b_2 : decode cJ2_length_9d52b 2 = .ok (.iconst 1, 1) := by decide +kernel
theorem dJ2_length_9d52b_3 : decode cJ2_length_9d52b 3 = .ok (.ishr, 1) := by decide +kernel
theorem dJ2_length_9d52b_4 : decode cJ2_length_9d52b 4 = .ok (.ireturn, 1) := by decide +kernel
theorem dJ2_charAt_3b067_0 : decode cJ2_charAt_3b067 0 = .ok (.iload_n 1, 1) := by decide +kernel
theorem dJ2_charAt_3b067_1 : decode cJ2_charAt_3b067 1 = .ok (.aload_n 0, 1) := by decide +kernel
theorem dJ2_charAt_3b067_2 : decode cJ2_charAt_3b067 2 = .ok (.invokestatic 67, 3) := by decide +kernel
theorem dJ2_charAt_3b067_5 : decode cJ2_charAt_3b067 5 = .ok (.aload_n 0, 1) := by decide +kernel
theorem dJ2_charAt_3b067_6 : decode cJ2_charAt_3b067 6 = .ok (.iload_n 1, 1) := by decide +kernel
theorem dJ2_charAt_3b067_7 : decode cJ2_charAt_3b067 7 = .ok (.invokestatic 71, 3) := by decide +kernel
theorem dJ2_charAt_3b067_10 : decode cJ2_charAt_3b067 10 = .ok (.ireturn, 1) := by decide +kernel
theorem dJ2_checkIndex_2214a_0 : decode cJ2_checkIndex_2214a 0 = .ok (.iload_n 0, 1) := by decide +kernel
theorem dJ2_checkIndex_2214a_1 : decode cJ2_checkIndex_2214a 1 = .ok (.aload_n 1, 1) := by decide +kernel
theorem dJ2_checkIndex_2214a_2 : decode cJ2_checkIndex_2214a 2 = .ok (.invokestatic 48, 3) := by decide +kernel
theorem dJ2_checkIndex_2214a_5 : decode cJ2_checkIndex_2214a 5 = .ok (.invokestatic 414, 3) := by decide +kernel
theorem dJ2_checkIndex_2214a_8 : decode cJ2_checkIndex_2214a 8 = .ok (.return_, 1) := by decide +kernel
theorem dJ7_fill_53178_0 : decode cJ7_fill_53178 0 = .ok (.iconst 0, 1) := by decide +kernel
theorem dJ7_fill_53178_1 : decode cJ7_fill_53178 1 = .ok (.istore_n 2, 1) := by decide +kernel
theorem dJ7_fill_53178_2 : decode cJ7_fill_53178 2 = .ok (.aload_n 0, 1) := by decide +kernel
theorem dJ7_fill_53178_3 : decode cJ7_fill_53178 3 = .ok (.arraylength, 1) := by decide +kernel
theorem dJ7_fill_53178_4 : decode cJ7_fill_53178 4 = .ok (.istore_n 3, 1) := by decide +kernel
theorem dJ7_fill_53178_5 : decode cJ7_fill_53178 5 = .ok (.iload_n 2, 1) := by decide +kernel
theorem dJ7_fill_53178_6 : decode cJ7_fill_53178 6 = .ok (.iload_n 3, 1) := by decide +kernel
theorem dJ7_fill_53178_7 : decode cJ7_fill_53178 7 = .ok (.if_icmp .ge 13, 3) := by decide +kernel
theorem dJ7_fill_53178_10 : decode cJ7_fill_53178 10 = .ok (.aload_n 0, 1) := by decide +kernel
theorem dJ7_fill_53178_11 : decode cJ7_fill_53178 11 = .ok (.iload_n 2, 1) := by decide +kernel
theorem dJ7_fill_53178_12 : decode cJ7_fill_53178 12 = .ok (.iload_n 1, 1) := by decide +kernel
theorem dJ7_fill_53178_13 : decode cJ7_fill_53178 13 = .ok (.iastore, 1) := by decide +kernel
theorem dJ7_fill_53178_14 : decode cJ7_fill_53178 14 = .ok (.iinc 2 1, 3) := by decide +kernel
theorem dJ7_fill_53178_17 : decode cJ7_fill_53178 17 = .ok (.goto (-12), 3) := by decide +kernel
theorem dJ7_fill_53178_20 : decode cJ7_fill_53178 20 = .ok (.return_, 1) := by decide +kernel
theorem dJ3_checkIndex_8e157_0 : decode cJ3_checkIndex_8e157 0 = .ok (.iload_n 0, 1) := by decide +kernel
theorem dJ3_checkIndex_8e157_1 : decode cJ3_checkIndex_8e157 1 = .ok (.ifCond .lt 8, 3) := by decide +kernel
theorem dJ3_checkIndex_8e157_4 : decode cJ3_checkIndex_8e157 4 = .ok (.iload_n 0, 1) := by decide +kernel
theorem dJ3_checkIndex_8e157_5 : decode cJ3_checkIndex_8e157 5 = .ok (.iload_n 1, 1) := by decide +kernel
theorem dJ3_checkIndex_8e157_6 : decode cJ3_checkIndex_8e157 6 = .ok (.if_icmp .lt 10, 3) := by decide +kernel
theorem dJ3_checkIndex_8e157_9 : decode cJ3_checkIndex_8e157 9 = .ok (.aload_n 2, 1) := by decide +kernel
theorem dJ3_checkIndex_8e157_10 : decode cJ3_checkIndex_8e157 10 = .ok (.iload_n 0, 1) := by decide +kernel
theorem dJ3_checkIndex_8e157_11 : decode cJ3_checkIndex_8e157 11 = .ok (.iload_n 1, 1) := by decide +kernel
theorem dJ3_checkIndex_8e157_12 : decode cJ3_checkIndex_8e157 12 = .ok (.invokestatic 95, 3) := by decide +kernel
theorem dJ3_checkIndex_8e157_15 : decode cJ3_checkIndex_8e157 15 = .ok (.athrow, 1) := by decide +kernel
theorem dJ3_checkIndex_8e157_16 : decode cJ3_checkIndex_8e157 16 = .ok (.iload_n 0, 1) := by decide +kernel
theorem dJ3_checkIndex_8e157_17 : decode cJ3_checkIndex_8e157 17 = .ok (.ireturn, 1) := by decide +kernel
theorem dL_law_0 : decode cL_law 0 = .ok (.new 7, 3) := by decide +kernel
theorem dL_law_3 : decode cL_law 3 = .ok (.dup, 1) := by decide +kernel
theorem dL_law_4 : decode cL_law 4 = .ok (.invokespecial 9, 3) := by decide +kernel
theorem dL_law_7 : decode cL_law 7 = .ok (.astore_n 1, 1) := by decide +kernel
theorem dL_law_8 : decode cL_law 8 = .ok (.new 10, 3) := by decide +kernel
theorem dL_law_11 : decode cL_law 11 = .ok (.dup, 1) := by decide +kernel
theorem dL_law_12 : decode cL_law 12 = .ok (.invokespecial 12, 3) := by decide +kernel
theorem dL_law_15 : decode cL_law 15 = .ok (.astore_n 2, 1) := by decide +kernel
theorem dL_law_16 : decode cL_law 16 = .ok (.iconst 0, 1) := by decide +kernel
theorem dL_law_17 : decode cL_law 17 = .ok (.istore_n 3, 1) := by decide +kernel
theorem dL_law_18 : decode cL_law 18 = .ok (.iload_n 3, 1) := by decide +kernel
theorem dL_law_19 : decode cL_law 19 = .ok (.aload_n 0, 1) := by decide +kernel
theorem dL_law_20 : decode cL_law 20 = .ok (.arraylength, 1) := by decide +kernel
theorem dL_law_21 : decode cL_law 21 = .ok (.bipush 6, 2) := by decide +kernel
theorem dL_law_23 : decode cL_law 23 = .ok (.isub, 1) := by decide +kernel
theorem dL_law_24 : decode cL_law 24 = .ok (.if_icmp .gt 777, 3) := by decide +kernel
theorem dL_law_27 : decode cL_law 27 = .ok (.aload_n 0, 1) := by decide +kernel
theorem dL_law_28 : decode cL_law 28 = .ok (.iload_n 3, 1) := by decide +kernel
theorem dL_law_29 : decode cL_law 29 = .ok (.iaload, 1) := by decide +kernel
theorem dL_law_30 : decode cL_law 30 = .ok (.bipush 31, 2) := by decide +kernel
theorem dL_law_32 : decode cL_law 32 = .ok (.iand, 1) := by decide +kernel
theorem dL_law_33 : decode cL_law 33 = .ok (.tableswitch 762 0 20 #[99, 162, 185, 208, 231, 264, 307, 350, 363, 396, 419, 452, 485, 508, 531, 564, 607, 640, 673, 706, 739], 99) := by decide +kernel
theorem dL_law_132 : decode cL_law 132 = .ok (.aload_n 1, 1) := by decide +kernel
theorem dL_law_133 : decode cL_law 133 = .ok (.aload_n 0, 1) := by decide +kernel
theorem dL_law_134 : decode cL_law 134 = .ok (.iload_n 3, 1) := by decide +kernel
theorem dL_law_135 : decode cL_law 135 = .ok (.iconst 1, 1) := by decide +kernel
theorem dL_law_136 : decode cL_law 136 = .ok (.iadd, 1) := by decide +kernel
theorem dL_law_137 : decode cL_law 137 = .ok (.iaload, 1) := by decide +kernel
theorem dL_law_138 : decode cL_law 138 = .ok (.aload_n 0, 1) := by decide +kernel
theorem dL_law_139 : decode cL_law 139 = .ok (.iload_n 3, 1) := by decide +kernel
theorem dL_law_140 : decode cL_law 140 = .ok (.iconst 2, 1) := by decide +kernel
theorem dL_law_141 : decode cL_law 141 = .ok (.iadd, 1) := by decide +kernel
theorem dL_law_142 : decode cL_law 142 = .ok (.iaload, 1) := by decide +kernel
theorem dL_law_143 : decode cL_law 143 = .ok (.aload_n 0, 1) := by decide +kernel
theorem dL_law_144 : decode cL_law 144 = .ok (.iload_n 3, 1) := by decide +kernel
theorem dL_law_145 : decode cL_law 145 = .ok (.iconst 3, 1) := by decide +kernel
theorem dL_law_146 : decode cL_law 146 = .ok (.iadd, 1) := by decide +kernel
theorem dL_law_147 : decode cL_law 147 = .ok (.iaload, 1) := by decide +kernel
theorem dL_law_148 : decode cL_law 148 = .ok (.aload_n 0, 1) := by decide +kernel
theorem dL_law_149 : decode cL_law 149 = .ok (.iload_n 3, 1) := by decide +kernel
theorem dL_law_150 : decode cL_law 150 = .ok (.iconst 4, 1) := by decide +kernel
theorem dL_law_151 : decode cL_law 151 = .ok (.iadd, 1) := by decide +kernel
theorem dL_law_152 : decode cL_law 152 = .ok (.iaload, 1) := by decide +kernel
theorem dL_law_153 : decode cL_law 153 = .ok (.aload_n 0, 1) := by decide +kernel
theorem dL_law_154 : decode cL_law 154 = .ok (.iload_n 3, 1) := by decide +kernel
theorem dL_law_155 : decode cL_law 155 = .ok (.iconst 5, 1) := by decide +kernel
theorem dL_law_156 : decode cL_law 156 = .ok (.iadd, 1) := by decide +kernel
theorem dL_law_157 : decode cL_law 157 = .ok (.iaload, 1) := by decide +kernel
theorem dL_law_158 : decode cL_law 158 = .ok (.invokevirtual 13, 3) := by decide +kernel
theorem dL_law_161 : decode cL_law 161 = .ok (.aload_n 2, 1) := by decide +kernel
theorem dL_law_162 : decode cL_law 162 = .ok (.aload_n 0, 1) := by decide +kernel
theorem dL_law_163 : decode cL_law 163 = .ok (.iload_n 3, 1) := by decide +kernel
theorem dL_law_164 : decode cL_law 164 = .ok (.iconst 1, 1) := by decide +kernel
theorem dL_law_165 : decode cL_law 165 = .ok (.iadd, 1) := by decide +kernel
theorem dL_law_166 : decode cL_law 166 = .ok (.iaload, 1) := by decide +kernel
theorem dL_law_167 : decode cL_law 167 = .ok (.aload_n 0, 1) := by decide +kernel
theorem dL_law_168 : decode cL_law 168 = .ok (.iload_n 3, 1) := by decide +kernel
theorem dL_law_169 : decode cL_law 169 = .ok (.iconst 2, 1) := by decide +kernel
theorem dL_law_170 : decode cL_law 170 = .ok (.iadd, 1) := by decide +kernel
theorem dL_law_171 : decode cL_law 171 = .ok (.iaload, 1) := by decide +kernel
theorem dL_law_172 : decode cL_law 172 = .ok (.aload_n 0, 1) := by decide +kernel
theorem dL_law_173 : decode cL_law 173 = .ok (.iload_n 3, 1) := by decide +kernel
theorem dL_law_174 : decode cL_law 174 = .ok (.iconst 3, 1) := by decide +kernel
theorem dL_law_175 : decode cL_law 175 = .ok (.iadd, 1) := by decide +kernel
theorem dL_law_176 : decode cL_law 176 = .ok (.iaload, 1) := by decide +kernel
theorem dL_law_177 : decode cL_law 177 = .ok (.aload_n 0, 1) := by decide +kernel
theorem dL_law_178 : decode cL_law 178 = .ok (.iload_n 3, 1) := by decide +kernel
theorem dL_law_179 : decode cL_law 179 = .ok (.iconst 4, 1) := by decide +kernel
theorem dL_law_180 : decode cL_law 180 = .ok (.iadd, 1) := by decide +kernel
theorem dL_law_181 : decode cL_law 181 = .ok (.iaload, 1) := by decide +kernel
theorem dL_law_182 : decode cL_law 182 = .ok (.aload_n 0, 1) := by decide +kernel
theorem dL_law_183 : decode cL_law 183 = .ok (.iload_n 3, 1) := by decide +kernel
theorem dL_law_184 : decode cL_law 184 = .ok (.iconst 5, 1) := by decide +kernel
theorem dL_law_185 : decode cL_law 185 = .ok (.iadd, 1) := by decide +kernel
theorem dL_law_186 : decode cL_law 186 = .ok (.iaload, 1) := by decide +kernel
theorem dL_law_187 : decode cL_law 187 = .ok (.invokevirtual 17, 3) := by decide +kernel
theorem dL_law_190 : decode cL_law 190 = .ok (.if_icmp .eq 605, 3) := by decide +kernel
theorem dL_law_193 : decode cL_law 193 = .ok (.iconst 0, 1) := by decide +kernel
theorem dL_law_194 : decode cL_law 194 = .ok (.ireturn, 1) := by decide +kernel
theorem dL_law_195 : decode cL_law 195 = .ok (.aload_n 1, 1) := by decide +kernel
theorem dL_law_196 : decode cL_law 196 = .ok (.aload_n 0, 1) := by decide +kernel
theorem dL_law_197 : decode cL_law 197 = .ok (.iload_n 3, 1) := by decide +kernel
theorem dL_law_198 : decode cL_law 198 = .ok (.iconst 1, 1) := by decide +kernel
theorem dL_law_199 : decode cL_law 199 = .ok (.iadd, 1) := by decide +kernel
theorem dL_law_200 : decode cL_law 200 = .ok (.iaload, 1) := by decide +kernel
theorem dL_law_201 : decode cL_law 201 = .ok (.invokevirtual 18, 3) := by decide +kernel
theorem dL_law_204 : decode cL_law 204 = .ok (.aload_n 2, 1) := by decide +kernel
theorem dL_law_205 : decode cL_law 205 = .ok (.aload_n 0, 1) := by decide +kernel
theorem dL_law_206 : decode cL_law 206 = .ok (.iload_n 3, 1) := by decide +kernel
theorem dL_law_207 : decode cL_law 207 = .ok (.iconst 1, 1) := by decide +kernel
theorem dL_law_208 : decode cL_law 208 = .ok (.iadd, 1) := by decide +kernel
theorem dL_law_209 : decode cL_law 209 = .ok (.iaload, 1) := by decide +kernel
theorem dL_law_210 : decode cL_law 210 = .ok (.invokevirtual 22, 3) := by decide +kernel
theorem dL_law_213 : decode cL_law 213 = .ok (.if_icmp .eq 582, 3) := by decide +kernel
theorem dL_law_216 : decode cL_law 216 = .ok (.iconst 0, 1) := by decide +kernel
theorem dL_law_217 : decode cL_law 217 = .ok (.ireturn, 1) := by decide +kernel
theorem dL_law_218 : decode cL_law 218 = .ok (.aload_n 1, 1) := by decide +kernel
theorem dL_law_219 : decode cL_law 219 = .ok (.aload_n 0, 1) := by decide +kernel
theorem dL_law_220 : decode cL_law 220 = .ok (.iload_n 3, 1) := by decide +kernel
theorem dL_law_221 : decode cL_law 221 = .ok (.iconst 1, 1) := by decide +kernel
theorem dL_law_222 : decode cL_law 222 = .ok (.iadd, 1) := by decide +kernel
theorem dL_law_223 : decode cL_law 223 = .ok (.iaload, 1) := by decide +kernel
theorem dL_law_224 : decode cL_law 224 = .ok (.invokevirtual 23, 3) := by decide +kernel
theorem dL_law_227 : decode cL_law 227 = .ok (.aload_n 2, 1) := by decide +kernel
theorem dL_law_228 : decode cL_law 228 = .ok (.aload_n 0, 1) := by decide +kernel
theorem dL_law_229 : decode cL_law 229 = .ok (.iload_n 3, 1) := by decide +kernel
theorem dL_law_230 : decode cL_law 230 = .ok (.iconst 1, 1) := by decide +kernel
theorem dL_law_231 : decode cL_law 231 = .ok (.iadd, 1) := by decide +kernel
theorem dL_law_232 : decode cL_law 232 = .ok (.iaload, 1) := by decide +kernel
theorem dL_law_233 : decode cL_law 233 = .ok (.invokevirtual 27, 3) := by decide +kernel
theorem dL_law_236 : decode cL_law 236 = .ok (.if_icmp .eq 559, 3) := by decide +kernel
theorem dL_law_239 : decode cL_law 239 = .ok (.iconst 0, 1) := by decide +kernel
theorem dL_law_240 : decode cL_law 240 = .ok (.ireturn, 1) := by decide +kernel
theorem dL_law_241 : decode cL_law 241 = .ok (.aload_n 1, 1) := by decide +kernel
theorem dL_law_242 : decode cL_law 242 = .ok (.aload_n 0, 1) := by decide +kernel
theorem dL_law_243 : decode cL_law 243 = .ok (.iload_n 3, 1) := by decide +kernel
theorem dL_law_244 : decode cL_law 244 = .ok (.iconst 1, 1) := by decide +kernel
theorem dL_law_245 : decode cL_law 245 = .ok (.iadd, 1) := by decide +kernel
theorem dL_law_246 : decode cL_law 246 = .ok (.iaload, 1) := by decide +kernel
theorem dL_law_247 : decode cL_law 247 = .ok (.invokevirtual 28, 3) := by decide +kernel
theorem dL_law_250 : decode cL_law 250 = .ok (.aload_n 2, 1) := by decide +kernel
theorem dL_law_251 : decode cL_law 251 = .ok (.aload_n 0, 1) := by decide +kernel
theorem dL_law_252 : decode cL_law 252 = .ok (.iload_n 3, 1) := by decide +kernel
theorem dL_law_253 : decode cL_law 253 = .ok (.iconst 1, 1) := by decide +kernel
theorem dL_law_254 : decode cL_law 254 = .ok (.iadd, 1) := by decide +kernel
theorem dL_law_255 : decode cL_law 255 = .ok (.iaload, 1) := by decide +kernel
theorem dL_law_256 : decode cL_law 256 = .ok (.invokevirtual 31, 3) := by decide +kernel
theorem dL_law_259 : decode cL_law 259 = .ok (.if_icmp .eq 536, 3) := by decide +kernel
theorem dL_law_262 : decode cL_law 262 = .ok (.iconst 0, 1) := by decide +kernel
theorem dL_law_263 : decode cL_law 263 = .ok (.ireturn, 1) := by decide +kernel
theorem dL_law_264 : decode cL_law 264 = .ok (.aload_n 1, 1) := by decide +kernel
theorem dL_law_265 : decode cL_law 265 = .ok (.aload_n 0, 1) := by decide +kernel
theorem dL_law_266 : decode cL_law 266 = .ok (.iload_n 3, 1) := by decide +kernel
theorem dL_law_267 : decode cL_law 267 = .ok (.iconst 1, 1) := by decide +kernel
theorem dL_law_268 : decode cL_law 268 = .ok (.iadd, 1) := by decide +kernel
theorem dL_law_269 : decode cL_law 269 = .ok (.iaload, 1) := by decide +kernel
theorem dL_law_270 : decode cL_law 270 = .ok (.aload_n 0, 1) := by decide +kernel
theorem dL_law_271 : decode cL_law 271 = .ok (.iload_n 3, 1) := by decide +kernel
theorem dL_law_272 : decode cL_law 272 = .ok (.iconst 2, 1) := by decide +kernel
theorem dL_law_273 : decode cL_law 273 = .ok (.iadd, 1) := by decide +kernel
theorem dL_law_274 : decode cL_law 274 = .ok (.iaload, 1) := by decide +kernel
theorem dL_law_275 : decode cL_law 275 = .ok (.invokevirtual 32, 3) := by decide +kernel
theorem dL_law_278 : decode cL_law 278 = .ok (.aload_n 2, 1) := by decide +kernel
theorem dL_law_279 : decode cL_law 279 = .ok (.aload_n 0, 1) := by decide +kernel
theorem dL_law_280 : decode cL_law 280 = .ok (.iload_n 3, 1) := by decide +kernel
theorem dL_law_281 : decode cL_law 281 = .ok (.iconst 1, 1) := by decide +kernel
theorem dL_law_282 : decode cL_law 282 = .ok (.iadd, 1) := by decide +kernel
theorem dL_law_283 : decode cL_law 283 = .ok (.iaload, 1) := by decide +kernel
theorem dL_law_284 : decode cL_law 284 = .ok (.aload_n 0, 1) := by decide +kernel
theorem dL_law_285 : decode cL_law 285 = .ok (.iload_n 3, 1) := by decide +kernel
theorem dL_law_286 : decode cL_law 286 = .ok (.iconst 2, 1) := by decide +kernel
theorem dL_law_287 : decode cL_law 287 = .ok (.iadd, 1) := by decide +kernel
theorem dL_law_288 : decode cL_law 288 = .ok (.iaload, 1) := by decide +kernel
theorem dL_law_289 : decode cL_law 289 = .ok (.invokevirtual 36, 3) := by decide +kernel
theorem dL_law_292 : decode cL_law 292 = .ok (.if_icmp .eq 503, 3) := by decide +kernel
theorem dL_law_295 : decode cL_law 295 = .ok (.iconst 0, 1) := by decide +kernel
theorem dL_law_296 : decode cL_law 296 = .ok (.ireturn, 1) := by decide +kernel
theorem dL_law_297 : decode cL_law 297 = .ok (.aload_n 1, 1) := by decide +kernel
theorem dL_law_298 : decode cL_law 298 = .ok (.aload_n 0, 1) := by decide +kernel
theorem dL_law_299 : decode cL_law 299 = .ok (.iload_n 3, 1) := by decide +kernel
theorem dL_law_300 : decode cL_law 300 = .ok (.iconst 1, 1) := by decide +kernel
theorem dL_law_301 : decode cL_law 301 = .ok (.iadd, 1) := by decide +kernel
theorem dL_law_302 : decode cL_law 302 = .ok (.iaload, 1) := by decide +kernel
theorem dL_law_303 : decode cL_law 303 = .ok (.aload_n 0, 1) := by decide +kernel
theorem dL_law_304 : decode cL_law 304 = .ok (.iload_n 3, 1) := by decide +kernel
theorem dL_law_305 : decode cL_law 305 = .ok (.iconst 2, 1) := by decide +kernel
theorem dL_law_306 : decode cL_law 306 = .ok (.iadd, 1) := by decide +kernel
theorem dL_law_307 : decode cL_law 307 = .ok (.iaload, 1) := by decide +kernel
theorem dL_law_308 : decode cL_law 308 = .ok (.aload_n 0, 1) := by decide +kernel
theorem dL_law_309 : decode cL_law 309 = .ok (.iload_n 3, 1) := by decide +kernel
theorem dL_law_310 : decode cL_law 310 = .ok (.iconst 3, 1) := by decide +kernel
theorem dL_law_311 : decode cL_law 311 = .ok (.iadd, 1) := by decide +kernel
theorem dL_law_312 : decode cL_law 312 = .ok (.iaload, 1) := by decide +kernel
theorem dL_law_313 : decode cL_law 313 = .ok (.invokevirtual 37, 3) := by decide +kernel
theorem dL_law_316 : decode cL_law 316 = .ok (.aload_n 2, 1) := by decide +kernel
theorem dL_law_317 : decode cL_law 317 = .ok (.aload_n 0, 1) := by decide +kernel
theorem dL_law_318 : decode cL_law 318 = .ok (.iload_n 3, 1) := by decide +kernel
theorem dL_law_319 : decode cL_law 319 = .ok (.iconst 1, 1) := by decide +kernel
theorem dL_law_320 : decode cL_law 320 = .ok (.iadd, 1) := by decide +kernel
theorem dL_law_321 : decode cL_law 321 = .ok (.iaload, 1) := by decide +kernel
theorem dL_law_322 : decode cL_law 322 = .ok (.aload_n 0, 1) := by decide +kernel
theorem dL_law_323 : decode cL_law 323 = .ok (.iload_n 3, 1) := by decide +kernel
theorem dL_law_324 : decode cL_law 324 = .ok (.iconst 2, 1) := by decide +kernel
theorem dL_law_325 : decode cL_law 325 = .ok (.iadd, 1) := by decide +kernel
theorem dL_law_326 : decode cL_law 326 = .ok (.iaload, 1) := by decide +kernel
theorem dL_law_327 : decode cL_law 327 = .ok (.aload_n 0, 1) := by decide +kernel
theorem dL_law_328 : decode cL_law 328 = .ok (.iload_n 3, 1) := by decide +kernel
theorem dL_law_329 : decode cL_law 329 = .ok (.iconst 3, 1) := by decide +kernel
theorem dL_law_330 : decode cL_law 330 = .ok (.iadd, 1) := by decide +kernel
theorem dL_law_331 : decode cL_law 331 = .ok (.iaload, 1) := by decide +kernel
theorem dL_law_332 : decode cL_law 332 = .ok (.invokevirtual 41, 3) := by decide +kernel
theorem dL_law_335 : decode cL_law 335 = .ok (.if_icmp .eq 460, 3) := by decide +kernel
theorem dL_law_338 : decode cL_law 338 = .ok (.iconst 0, 1) := by decide +kernel
theorem dL_law_339 : decode cL_law 339 = .ok (.ireturn, 1) := by decide +kernel
theorem dL_law_340 : decode cL_law 340 = .ok (.aload_n 1, 1) := by decide +kernel
theorem dL_law_341 : decode cL_law 341 = .ok (.aload_n 0, 1) := by decide +kernel
theorem dL_law_342 : decode cL_law 342 = .ok (.iload_n 3, 1) := by decide +kernel
theorem dL_law_343 : decode cL_law 343 = .ok (.iconst 1, 1) := by decide +kernel
theorem dL_law_344 : decode cL_law 344 = .ok (.iadd, 1) := by decide +kernel
theorem dL_law_345 : decode cL_law 345 = .ok (.iaload, 1) := by decide +kernel
theorem dL_law_346 : decode cL_law 346 = .ok (.aload_n 0, 1) := by decide +kernel
theorem dL_law_347 : decode cL_law 347 = .ok (.iload_n 3, 1) := by decide +kernel
theorem dL_law_348 : decode cL_law 348 = .ok (.iconst 2, 1) := by decide +kernel
theorem dL_law_349 : decode cL_law 349 = .ok (.iadd, 1) := by decide +kernel
theorem dL_law_350 : decode cL_law 350 = .ok (.iaload, 1) := by decide +kernel
theorem dL_law_351 : decode cL_law 351 = .ok (.aload_n 0, 1) := by decide +kernel
theorem dL_law_352 : decode cL_law 352 = .ok (.iload_n 3, 1) := by decide +kernel
theorem dL_law_353 : decode cL_law 353 = .ok (.iconst 3, 1) := by decide +kernel
theorem dL_law_354 : decode cL_law 354 = .ok (.iadd, 1) := by decide +kernel
theorem dL_law_355 : decode cL_law 355 = .ok (.iaload, 1) := by decide +kernel
theorem dL_law_356 : decode cL_law 356 = .ok (.invokevirtual 42, 3) := by decide +kernel
theorem dL_law_359 : decode cL_law 359 = .ok (.aload_n 2, 1) := by decide +kernel
theorem dL_law_360 : decode cL_law 360 = .ok (.aload_n 0, 1) := by decide +kernel
theorem dL_law_361 : decode cL_law 361 = .ok (.iload_n 3, 1) := by decide +kernel
theorem dL_law_362 : decode cL_law 362 = .ok (.iconst 1, 1) := by decide +kernel
theorem dL_law_363 : decode cL_law 363 = .ok (.iadd, 1) := by decide +kernel
theorem dL_law_364 : decode cL_law 364 = .ok (.iaload, 1) := by decide +kernel
theorem dL_law_365 : decode cL_law 365 = .ok (.aload_n 0, 1) := by decide +kernel
theorem dL_law_366 : decode cL_law 366 = .ok (.iload_n 3, 1) := by decide +kernel
theorem dL_law_367 : decode cL_law 367 = .ok (.iconst 2, 1) := by decide +kernel
theorem dL_law_368 : decode cL_law 368 = .ok (.iadd, 1) := by decide +kernel
theorem dL_law_369 : decode cL_law 369 = .ok (.iaload, 1) := by decide +kernel
theorem dL_law_370 : decode cL_law 370 = .ok (.aload_n 0, 1) := by decide +kernel
theorem dL_law_371 : decode cL_law 371 = .ok (.iload_n 3, 1) := by decide +kernel
theorem dL_law_372 : decode cL_law 372 = .ok (.iconst 3, 1) := by decide +kernel
theorem dL_law_373 : decode cL_law 373 = .ok (.iadd, 1) := by decide +kernel
theorem dL_law_374 : decode cL_law 374 = .ok (.iaload, 1) := by decide +kernel
theorem dL_law_375 : decode cL_law 375 = .ok (.invokevirtual 45, 3) := by decide +kernel
theorem dL_law_378 : decode cL_law 378 = .ok (.if_icmp .eq 417, 3) := by decide +kernel
theorem dL_law_381 : decode cL_law 381 = .ok (.iconst 0, 1) := by decide +kernel
theorem dL_law_382 : decode cL_law 382 = .ok (.ireturn, 1) := by decide +kernel
theorem dL_law_383 : decode cL_law 383 = .ok (.aload_n 1, 1) := by decide +kernel
theorem dL_law_384 : decode cL_law 384 = .ok (.invokevirtual 46, 3) := by decide +kernel
theorem dL_law_387 : decode cL_law 387 = .ok (.aload_n 2, 1) := by decide +kernel
theorem dL_law_388 : decode cL_law 388 = .ok (.invokevirtual 50, 3) := by decide +kernel
theorem dL_law_391 : decode cL_law 391 = .ok (.if_icmp .eq 404, 3) := by decide +kernel
theorem dL_law_394 : decode cL_law 394 = .ok (.iconst 0, 1) := by decide +kernel
theorem dL_law_395 : decode cL_law 395 = .ok (.ireturn, 1) := by decide +kernel
theorem dL_law_396 : decode cL_law 396 = .ok (.aload_n 1, 1) := by decide +kernel
theorem dL_law_397 : decode cL_law 397 = .ok (.aload_n 0, 1) := by decide +kernel
theorem dL_law_398 : decode cL_law 398 = .ok (.iload_n 3, 1) := by decide +kernel
theorem dL_law_399 : decode cL_law 399 = .ok (.iconst 1, 1) := by decide +kernel
theorem dL_law_400 : decode cL_law 400 = .ok (.iadd, 1) := by decide +kernel
theorem dL_law_401 : decode cL_law 401 = .ok (.iaload, 1) := by decide +kernel
theorem dL_law_402 : decode cL_law 402 = .ok (.aload_n 0, 1) := by decide +kernel
theorem dL_law_403 : decode cL_law 403 = .ok (.iload_n 3, 1) := by decide +kernel
theorem dL_law_404 : decode cL_law 404 = .ok (.iconst 2, 1) := by decide +kernel
theorem dL_law_405 : decode cL_law 405 = .ok (.iadd, 1) := by decide +kernel
theorem dL_law_406 : decode cL_law 406 = .ok (.iaload, 1) := by decide +kernel
theorem dL_law_407 : decode cL_law 407 = .ok (.invokevirtual 51, 3) := by decide +kernel
theorem dL_law_410 : decode cL_law 410 = .ok (.aload_n 2, 1) := by decide +kernel
theorem dL_law_411 : decode cL_law 411 = .ok (.aload_n 0, 1) := by decide +kernel
theorem dL_law_412 : decode cL_law 412 = .ok (.iload_n 3, 1) := by decide +kernel
theorem dL_law_413 : decode cL_law 413 = .ok (.iconst 1, 1) := by decide +kernel
theorem dL_law_414 : decode cL_law 414 = .ok (.iadd, 1) := by decide +kernel
theorem dL_law_415 : decode cL_law 415 = .ok (.iaload, 1) := by decide +kernel
theorem dL_law_416 : decode cL_law 416 = .ok (.aload_n 0, 1) := by decide +kernel
theorem dL_law_417 : decode cL_law 417 = .ok (.iload_n 3, 1) := by decide +kernel
theorem dL_law_418 : decode cL_law 418 = .ok (.iconst 2, 1) := by decide +kernel
theorem dL_law_419 : decode cL_law 419 = .ok (.iadd, 1) := by decide +kernel
theorem dL_law_420 : decode cL_law 420 = .ok (.iaload, 1) := by decide +kernel
theorem dL_law_421 : decode cL_law 421 = .ok (.invokevirtual 54, 3) := by decide +kernel
theorem dL_law_424 : decode cL_law 424 = .ok (.if_icmp .eq 371, 3) := by decide +kernel
theorem dL_law_427 : decode cL_law 427 = .ok (.iconst 0, 1) := by decide +kernel
theorem dL_law_428 : decode cL_law 428 = .ok (.ireturn, 1) := by decide +kernel
theorem dL_law_429 : decode cL_law 429 = .ok (.aload_n 1, 1) := by decide +kernel
theorem dL_law_430 : decode cL_law 430 = .ok (.aload_n 0, 1) := by decide +kernel
theorem dL_law_431 : decode cL_law 431 = .ok (.iload_n 3, 1) := by decide +kernel
theorem dL_law_432 : decode cL_law 432 = .ok (.iconst 1, 1) := by decide +kernel
theorem dL_law_433 : decode cL_law 433 = .ok (.iadd, 1) := by decide +kernel
theorem dL_law_434 : decode cL_law 434 = .ok (.iaload, 1) := by decide +kernel
theorem dL_law_435 : decode cL_law 435 = .ok (.invokevirtual 55, 3) := by decide +kernel
theorem dL_law_438 : decode cL_law 438 = .ok (.aload_n 2, 1) := by decide +kernel
theorem dL_law_439 : decode cL_law 439 = .ok (.aload_n 0, 1) := by decide +kernel
theorem dL_law_440 : decode cL_law 440 = .ok (.iload_n 3, 1) := by decide +kernel
theorem dL_law_441 : decode cL_law 441 = .ok (.iconst 1, 1) := by decide +kernel
theorem dL_law_442 : decode cL_law 442 = .ok (.iadd, 1) := by decide +kernel
theorem dL_law_443 : decode cL_law 443 = .ok (.iaload, 1) := by decide +kernel
theorem dL_law_444 : decode cL_law 444 = .ok (.invokevirtual 58, 3) := by decide +kernel
theorem dL_law_447 : decode cL_law 447 = .ok (.if_icmp .eq 348, 3) := by decide +kernel
theorem dL_law_450 : decode cL_law 450 = .ok (.iconst 0, 1) := by decide +kernel
theorem dL_law_451 : decode cL_law 451 = .ok (.ireturn, 1) := by decide +kernel
theorem dL_law_452 : decode cL_law 452 = .ok (.aload_n 1, 1) := by decide +kernel
theorem dL_law_453 : decode cL_law 453 = .ok (.aload_n 0, 1) := by decide +kernel
theorem dL_law_454 : decode cL_law 454 = .ok (.iload_n 3, 1) := by decide +kernel
theorem dL_law_455 : decode cL_law 455 = .ok (.iconst 1, 1) := by decide +kernel
theorem dL_law_456 : decode cL_law 456 = .ok (.iadd, 1) := by decide +kernel
theorem dL_law_457 : decode cL_law 457 = .ok (.iaload, 1) := by decide +kernel
theorem dL_law_458 : decode cL_law 458 = .ok (.aload_n 0, 1) := by decide +kernel
theorem dL_law_459 : decode cL_law 459 = .ok (.iload_n 3, 1) := by decide +kernel
theorem dL_law_460 : decode cL_law 460 = .ok (.iconst 2, 1) := by decide +kernel
theorem dL_law_461 : decode cL_law 461 = .ok (.iadd, 1) := by decide +kernel
theorem dL_law_462 : decode cL_law 462 = .ok (.iaload, 1) := by decide +kernel
theorem dL_law_463 : decode cL_law 463 = .ok (.invokevirtual 59, 3) := by decide +kernel
theorem dL_law_466 : decode cL_law 466 = .ok (.aload_n 2, 1) := by decide +kernel
theorem dL_law_467 : decode cL_law 467 = .ok (.aload_n 0, 1) := by decide +kernel
theorem dL_law_468 : decode cL_law 468 = .ok (.iload_n 3, 1) := by decide +kernel
theorem dL_law_469 : decode cL_law 469 = .ok (.iconst 1, 1) := by decide +kernel
theorem dL_law_470 : decode cL_law 470 = .ok (.iadd, 1) := by decide +kernel
theorem dL_law_471 : decode cL_law 471 = .ok (.iaload, 1) := by decide +kernel
theorem dL_law_472 : decode cL_law 472 = .ok (.aload_n 0, 1) := by decide +kernel
theorem dL_law_473 : decode cL_law 473 = .ok (.iload_n 3, 1) := by decide +kernel
theorem dL_law_474 : decode cL_law 474 = .ok (.iconst 2, 1) := by decide +kernel
theorem dL_law_475 : decode cL_law 475 = .ok (.iadd, 1) := by decide +kernel
theorem dL_law_476 : decode cL_law 476 = .ok (.iaload, 1) := by decide +kernel
theorem dL_law_477 : decode cL_law 477 = .ok (.invokevirtual 63, 3) := by decide +kernel
theorem dL_law_480 : decode cL_law 480 = .ok (.if_icmp .eq 315, 3) := by decide +kernel
theorem dL_law_483 : decode cL_law 483 = .ok (.iconst 0, 1) := by decide +kernel
theorem dL_law_484 : decode cL_law 484 = .ok (.ireturn, 1) := by decide +kernel
theorem dL_law_485 : decode cL_law 485 = .ok (.aload_n 1, 1) := by decide +kernel
theorem dL_law_486 : decode cL_law 486 = .ok (.aload_n 0, 1) := by decide +kernel
theorem dL_law_487 : decode cL_law 487 = .ok (.iload_n 3, 1) := by decide +kernel
theorem dL_law_488 : decode cL_law 488 = .ok (.iconst 1, 1) := by decide +kernel
theorem dL_law_489 : decode cL_law 489 = .ok (.iadd, 1) := by decide +kernel
theorem dL_law_490 : decode cL_law 490 = .ok (.iaload, 1) := by decide +kernel
theorem dL_law_491 : decode cL_law 491 = .ok (.aload_n 0, 1) := by decide +kernel
theorem dL_law_492 : decode cL_law 492 = .ok (.iload_n 3, 1) := by decide +kernel
theorem dL_law_493 : decode cL_law 493 = .ok (.iconst 2, 1) := by decide +kernel
theorem dL_law_494 : decode cL_law 494 = .ok (.iadd, 1) := by decide +kernel
theorem dL_law_495 : decode cL_law 495 = .ok (.iaload, 1) := by decide +kernel
theorem dL_law_496 : decode cL_law 496 = .ok (.invokevirtual 64, 3) := by decide +kernel
theorem dL_law_499 : decode cL_law 499 = .ok (.aload_n 2, 1) := by decide +kernel
theorem dL_law_500 : decode cL_law 500 = .ok (.aload_n 0, 1) := by decide +kernel
theorem dL_law_501 : decode cL_law 501 = .ok (.iload_n 3, 1) := by decide +kernel
theorem dL_law_502 : decode cL_law 502 = .ok (.iconst 1, 1) := by decide +kernel
theorem dL_law_503 : decode cL_law 503 = .ok (.iadd, 1) := by decide +kernel
theorem dL_law_504 : decode cL_law 504 = .ok (.iaload, 1) := by decide +kernel
theorem dL_law_505 : decode cL_law 505 = .ok (.aload_n 0, 1) := by decide +kernel
theorem dL_law_506 : decode cL_law 506 = .ok (.iload_n 3, 1) := by decide +kernel
theorem dL_law_507 : decode cL_law 507 = .ok (.iconst 2, 1) := by decide +kernel
theorem dL_law_508 : decode cL_law 508 = .ok (.iadd, 1) := by decide +kernel
theorem dL_law_509 : decode cL_law 509 = .ok (.iaload, 1) := by decide +kernel
theorem dL_law_510 : decode cL_law 510 = .ok (.invokevirtual 67, 3) := by decide +kernel
theorem dL_law_513 : decode cL_law 513 = .ok (.if_icmp .eq 282, 3) := by decide +kernel
theorem dL_law_516 : decode cL_law 516 = .ok (.iconst 0, 1) := by decide +kernel
theorem dL_law_517 : decode cL_law 517 = .ok (.ireturn, 1) := by decide +kernel
theorem dL_law_518 : decode cL_law 518 = .ok (.aload_n 1, 1) := by decide +kernel
theorem dL_law_519 : decode cL_law 519 = .ok (.aload_n 0, 1) := by decide +kernel
theorem dL_law_520 : decode cL_law 520 = .ok (.iload_n 3, 1) := by decide +kernel
theorem dL_law_521 : decode cL_law 521 = .ok (.iconst 1, 1) := by decide +kernel
theorem dL_law_522 : decode cL_law 522 = .ok (.iadd, 1) := by decide +kernel
theorem dL_law_523 : decode cL_law 523 = .ok (.iaload, 1) := by decide +kernel
theorem dL_law_524 : decode cL_law 524 = .ok (.invokevirtual 68, 3) := by decide +kernel
theorem dL_law_527 : decode cL_law 527 = .ok (.aload_n 2, 1) := by decide +kernel
theorem dL_law_528 : decode cL_law 528 = .ok (.aload_n 0, 1) := by decide +kernel
theorem dL_law_529 : decode cL_law 529 = .ok (.iload_n 3, 1) := by decide +kernel
theorem dL_law_530 : decode cL_law 530 = .ok (.iconst 1, 1) := by decide +kernel
theorem dL_law_531 : decode cL_law 531 = .ok (.iadd, 1) := by decide +kernel
theorem dL_law_532 : decode cL_law 532 = .ok (.iaload, 1) := by decide +kernel
theorem dL_law_533 : decode cL_law 533 = .ok (.invokevirtual 71, 3) := by decide +kernel
theorem dL_law_536 : decode cL_law 536 = .ok (.if_icmp .eq 259, 3) := by decide +kernel
theorem dL_law_539 : decode cL_law 539 = .ok (.iconst 0, 1) := by decide +kernel
theorem dL_law_540 : decode cL_law 540 = .ok (.ireturn, 1) := by decide +kernel
theorem dL_law_541 : decode cL_law 541 = .ok (.aload_n 1, 1) := by decide +kernel
theorem dL_law_542 : decode cL_law 542 = .ok (.aload_n 0, 1) := by decide +kernel
theorem dL_law_543 : decode cL_law 543 = .ok (.iload_n 3, 1) := by decide +kernel
theorem dL_law_544 : decode cL_law 544 = .ok (.iconst 1, 1) := by decide +kernel
theorem dL_law_545 : decode cL_law 545 = .ok (.iadd, 1) := by decide +kernel
theorem dL_law_546 : decode cL_law 546 = .ok (.iaload, 1) := by decide +kernel
theorem dL_law_547 : decode cL_law 547 = .ok (.invokevirtual 72, 3) := by decide +kernel
theorem dL_law_550 : decode cL_law 550 = .ok (.aload_n 2, 1) := by decide +kernel
theorem dL_law_551 : decode cL_law 551 = .ok (.aload_n 0, 1) := by decide +kernel
theorem dL_law_552 : decode cL_law 552 = .ok (.iload_n 3, 1) := by decide +kernel
theorem dL_law_553 : decode cL_law 553 = .ok (.iconst 1, 1) := by decide +kernel
theorem dL_law_554 : decode cL_law 554 = .ok (.iadd, 1) := by decide +kernel
theorem dL_law_555 : decode cL_law 555 = .ok (.iaload, 1) := by decide +kernel
theorem dL_law_556 : decode cL_law 556 = .ok (.invokevirtual 75, 3) := by decide +kernel
theorem dL_law_559 : decode cL_law 559 = .ok (.if_icmp .eq 236, 3) := by decide +kernel
theorem dL_law_562 : decode cL_law 562 = .ok (.iconst 0, 1) := by decide +kernel
theorem dL_law_563 : decode cL_law 563 = .ok (.ireturn, 1) := by decide +kernel
theorem dL_law_564 : decode cL_law 564 = .ok (.aload_n 1, 1) := by decide +kernel
theorem dL_law_565 : decode cL_law 565 = .ok (.aload_n 0, 1) := by decide +kernel
theorem dL_law_566 : decode cL_law 566 = .ok (.iload_n 3, 1) := by decide +kernel
theorem dL_law_567 : decode cL_law 567 = .ok (.iconst 1, 1) := by decide +kernel
theorem dL_law_568 : decode cL_law 568 = .ok (.iadd, 1) := by decide +kernel
theorem dL_law_569 : decode cL_law 569 = .ok (.iaload, 1) := by decide +kernel
theorem dL_law_570 : decode cL_law 570 = .ok (.aload_n 0, 1) := by decide +kernel
theorem dL_law_571 : decode cL_law 571 = .ok (.iload_n 3, 1) := by decide +kernel
theorem dL_law_572 : decode cL_law 572 = .ok (.iconst 2, 1) := by decide +kernel
theorem dL_law_573 : decode cL_law 573 = .ok (.iadd, 1) := by decide +kernel
theorem dL_law_574 : decode cL_law 574 = .ok (.iaload, 1) := by decide +kernel
theorem dL_law_575 : decode cL_law 575 = .ok (.invokevirtual 76, 3) := by decide +kernel
theorem dL_law_578 : decode cL_law 578 = .ok (.aload_n 2, 1) := by decide +kernel
theorem dL_law_579 : decode cL_law 579 = .ok (.aload_n 0, 1) := by decide +kernel
theorem dL_law_580 : decode cL_law 580 = .ok (.iload_n 3, 1) := by decide +kernel
theorem dL_law_581 : decode cL_law 581 = .ok (.iconst 1, 1) := by decide +kernel
theorem dL_law_582 : decode cL_law 582 = .ok (.iadd, 1) := by decide +kernel
theorem dL_law_583 : decode cL_law 583 = .ok (.iaload, 1) := by decide +kernel
theorem dL_law_584 : decode cL_law 584 = .ok (.aload_n 0, 1) := by decide +kernel
theorem dL_law_585 : decode cL_law 585 = .ok (.iload_n 3, 1) := by decide +kernel
theorem dL_law_586 : decode cL_law 586 = .ok (.iconst 2, 1) := by decide +kernel
theorem dL_law_587 : decode cL_law 587 = .ok (.iadd, 1) := by decide +kernel
theorem dL_law_588 : decode cL_law 588 = .ok (.iaload, 1) := by decide +kernel
theorem dL_law_589 : decode cL_law 589 = .ok (.invokevirtual 79, 3) := by decide +kernel
theorem dL_law_592 : decode cL_law 592 = .ok (.if_icmp .eq 203, 3) := by decide +kernel
theorem dL_law_595 : decode cL_law 595 = .ok (.iconst 0, 1) := by decide +kernel
theorem dL_law_596 : decode cL_law 596 = .ok (.ireturn, 1) := by decide +kernel
theorem dL_law_597 : decode cL_law 597 = .ok (.aload_n 1, 1) := by decide +kernel
theorem dL_law_598 : decode cL_law 598 = .ok (.aload_n 0, 1) := by decide +kernel
theorem dL_law_599 : decode cL_law 599 = .ok (.iload_n 3, 1) := by decide +kernel
theorem dL_law_600 : decode cL_law 600 = .ok (.iconst 1, 1) := by decide +kernel
theorem dL_law_601 : decode cL_law 601 = .ok (.iadd, 1) := by decide +kernel
theorem dL_law_602 : decode cL_law 602 = .ok (.iaload, 1) := by decide +kernel
theorem dL_law_603 : decode cL_law 603 = .ok (.aload_n 0, 1) := by decide +kernel
theorem dL_law_604 : decode cL_law 604 = .ok (.iload_n 3, 1) := by decide +kernel
theorem dL_law_605 : decode cL_law 605 = .ok (.iconst 2, 1) := by decide +kernel
theorem dL_law_606 : decode cL_law 606 = .ok (.iadd, 1) := by decide +kernel
theorem dL_law_607 : decode cL_law 607 = .ok (.iaload, 1) := by decide +kernel
theorem dL_law_608 : decode cL_law 608 = .ok (.aload_n 0, 1) := by decide +kernel
theorem dL_law_609 : decode cL_law 609 = .ok (.iload_n 3, 1) := by decide +kernel
theorem dL_law_610 : decode cL_law 610 = .ok (.iconst 3, 1) := by decide +kernel
theorem dL_law_611 : decode cL_law 611 = .ok (.iadd, 1) := by decide +kernel
theorem dL_law_612 : decode cL_law 612 = .ok (.iaload, 1) := by decide +kernel
theorem dL_law_613 : decode cL_law 613 = .ok (.invokevirtual 80, 3) := by decide +kernel
theorem dL_law_616 : decode cL_law 616 = .ok (.aload_n 2, 1) := by decide +kernel
theorem dL_law_617 : decode cL_law 617 = .ok (.aload_n 0, 1) := by decide +kernel
theorem dL_law_618 : decode cL_law 618 = .ok (.iload_n 3, 1) := by decide +kernel
theorem dL_law_619 : decode cL_law 619 = .ok (.iconst 1, 1) := by decide +kernel
theorem dL_law_620 : decode cL_law 620 = .ok (.iadd, 1) := by decide +kernel
theorem dL_law_621 : decode cL_law 621 = .ok (.iaload, 1) := by decide +kernel
theorem dL_law_622 : decode cL_law 622 = .ok (.aload_n 0, 1) := by decide +kernel
theorem dL_law_623 : decode cL_law 623 = .ok (.iload_n 3, 1) := by decide +kernel
theorem dL_law_624 : decode cL_law 624 = .ok (.iconst 2, 1) := by decide +kernel
theorem dL_law_625 : decode cL_law 625 = .ok (.iadd, 1) := by decide +kernel
theorem dL_law_626 : decode cL_law 626 = .ok (.iaload, 1) := by decide +kernel
theorem dL_law_627 : decode cL_law 627 = .ok (.aload_n 0, 1) := by decide +kernel
theorem dL_law_628 : decode cL_law 628 = .ok (.iload_n 3, 1) := by decide +kernel
theorem dL_law_629 : decode cL_law 629 = .ok (.iconst 3, 1) := by decide +kernel
theorem dL_law_630 : decode cL_law 630 = .ok (.iadd, 1) := by decide +kernel
theorem dL_law_631 : decode cL_law 631 = .ok (.iaload, 1) := by decide +kernel
theorem dL_law_632 : decode cL_law 632 = .ok (.invokevirtual 83, 3) := by decide +kernel
theorem dL_law_635 : decode cL_law 635 = .ok (.if_icmp .eq 160, 3) := by decide +kernel
theorem dL_law_638 : decode cL_law 638 = .ok (.iconst 0, 1) := by decide +kernel
theorem dL_law_639 : decode cL_law 639 = .ok (.ireturn, 1) := by decide +kernel
theorem dL_law_640 : decode cL_law 640 = .ok (.aload_n 1, 1) := by decide +kernel
theorem dL_law_641 : decode cL_law 641 = .ok (.aload_n 0, 1) := by decide +kernel
theorem dL_law_642 : decode cL_law 642 = .ok (.iload_n 3, 1) := by decide +kernel
theorem dL_law_643 : decode cL_law 643 = .ok (.iconst 1, 1) := by decide +kernel
theorem dL_law_644 : decode cL_law 644 = .ok (.iadd, 1) := by decide +kernel
theorem dL_law_645 : decode cL_law 645 = .ok (.iaload, 1) := by decide +kernel
theorem dL_law_646 : decode cL_law 646 = .ok (.aload_n 0, 1) := by decide +kernel
theorem dL_law_647 : decode cL_law 647 = .ok (.iload_n 3, 1) := by decide +kernel
theorem dL_law_648 : decode cL_law 648 = .ok (.iconst 2, 1) := by decide +kernel
theorem dL_law_649 : decode cL_law 649 = .ok (.iadd, 1) := by decide +kernel
theorem dL_law_650 : decode cL_law 650 = .ok (.iaload, 1) := by decide +kernel
theorem dL_law_651 : decode cL_law 651 = .ok (.invokevirtual 84, 3) := by decide +kernel
theorem dL_law_654 : decode cL_law 654 = .ok (.aload_n 2, 1) := by decide +kernel
theorem dL_law_655 : decode cL_law 655 = .ok (.aload_n 0, 1) := by decide +kernel
theorem dL_law_656 : decode cL_law 656 = .ok (.iload_n 3, 1) := by decide +kernel
theorem dL_law_657 : decode cL_law 657 = .ok (.iconst 1, 1) := by decide +kernel
theorem dL_law_658 : decode cL_law 658 = .ok (.iadd, 1) := by decide +kernel
theorem dL_law_659 : decode cL_law 659 = .ok (.iaload, 1) := by decide +kernel
theorem dL_law_660 : decode cL_law 660 = .ok (.aload_n 0, 1) := by decide +kernel
theorem dL_law_661 : decode cL_law 661 = .ok (.iload_n 3, 1) := by decide +kernel
theorem dL_law_662 : decode cL_law 662 = .ok (.iconst 2, 1) := by decide +kernel
theorem dL_law_663 : decode cL_law 663 = .ok (.iadd, 1) := by decide +kernel
theorem dL_law_664 : decode cL_law 664 = .ok (.iaload, 1) := by decide +kernel
theorem dL_law_665 : decode cL_law 665 = .ok (.invokevirtual 87, 3) := by decide +kernel
theorem dL_law_668 : decode cL_law 668 = .ok (.if_icmp .eq 127, 3) := by decide +kernel
theorem dL_law_671 : decode cL_law 671 = .ok (.iconst 0, 1) := by decide +kernel
theorem dL_law_672 : decode cL_law 672 = .ok (.ireturn, 1) := by decide +kernel
theorem dL_law_673 : decode cL_law 673 = .ok (.aload_n 1, 1) := by decide +kernel
theorem dL_law_674 : decode cL_law 674 = .ok (.aload_n 0, 1) := by decide +kernel
theorem dL_law_675 : decode cL_law 675 = .ok (.iload_n 3, 1) := by decide +kernel
theorem dL_law_676 : decode cL_law 676 = .ok (.iconst 1, 1) := by decide +kernel
theorem dL_law_677 : decode cL_law 677 = .ok (.iadd, 1) := by decide +kernel
theorem dL_law_678 : decode cL_law 678 = .ok (.iaload, 1) := by decide +kernel
theorem dL_law_679 : decode cL_law 679 = .ok (.aload_n 0, 1) := by decide +kernel
theorem dL_law_680 : decode cL_law 680 = .ok (.iload_n 3, 1) := by decide +kernel
theorem dL_law_681 : decode cL_law 681 = .ok (.iconst 2, 1) := by decide +kernel
theorem dL_law_682 : decode cL_law 682 = .ok (.iadd, 1) := by decide +kernel
theorem dL_law_683 : decode cL_law 683 = .ok (.iaload, 1) := by decide +kernel
theorem dL_law_684 : decode cL_law 684 = .ok (.invokevirtual 88, 3) := by decide +kernel
theorem dL_law_687 : decode cL_law 687 = .ok (.aload_n 2, 1) := by decide +kernel
theorem dL_law_688 : decode cL_law 688 = .ok (.aload_n 0, 1) := by decide +kernel
theorem dL_law_689 : decode cL_law 689 = .ok (.iload_n 3, 1) := by decide +kernel
theorem dL_law_690 : decode cL_law 690 = .ok (.iconst 1, 1) := by decide +kernel
theorem dL_law_691 : decode cL_law 691 = .ok (.iadd, 1) := by decide +kernel
theorem dL_law_692 : decode cL_law 692 = .ok (.iaload, 1) := by decide +kernel
theorem dL_law_693 : decode cL_law 693 = .ok (.aload_n 0, 1) := by decide +kernel
theorem dL_law_694 : decode cL_law 694 = .ok (.iload_n 3, 1) := by decide +kernel
theorem dL_law_695 : decode cL_law 695 = .ok (.iconst 2, 1) := by decide +kernel
theorem dL_law_696 : decode cL_law 696 = .ok (.iadd, 1) := by decide +kernel
theorem dL_law_697 : decode cL_law 697 = .ok (.iaload, 1) := by decide +kernel
theorem dL_law_698 : decode cL_law 698 = .ok (.invokevirtual 91, 3) := by decide +kernel
theorem dL_law_701 : decode cL_law 701 = .ok (.if_icmp .eq 94, 3) := by decide +kernel
theorem dL_law_704 : decode cL_law 704 = .ok (.iconst 0, 1) := by decide +kernel
theorem dL_law_705 : decode cL_law 705 = .ok (.ireturn, 1) := by decide +kernel
theorem dL_law_706 : decode cL_law 706 = .ok (.aload_n 1, 1) := by decide +kernel
theorem dL_law_707 : decode cL_law 707 = .ok (.aload_n 0, 1) := by decide +kernel
theorem dL_law_708 : decode cL_law 708 = .ok (.iload_n 3, 1) := by decide +kernel
theorem dL_law_709 : decode cL_law 709 = .ok (.iconst 1, 1) := by decide +kernel
theorem dL_law_710 : decode cL_law 710 = .ok (.iadd, 1) := by decide +kernel
theorem dL_law_711 : decode cL_law 711 = .ok (.iaload, 1) := by decide +kernel
theorem dL_law_712 : decode cL_law 712 = .ok (.aload_n 0, 1) := by decide +kernel
theorem dL_law_713 : decode cL_law 713 = .ok (.iload_n 3, 1) := by decide +kernel
theorem dL_law_714 : decode cL_law 714 = .ok (.iconst 2, 1) := by decide +kernel
theorem dL_law_715 : decode cL_law 715 = .ok (.iadd, 1) := by decide +kernel
theorem dL_law_716 : decode cL_law 716 = .ok (.iaload, 1) := by decide +kernel
theorem dL_law_717 : decode cL_law 717 = .ok (.invokevirtual 92, 3) := by decide +kernel
theorem dL_law_720 : decode cL_law 720 = .ok (.aload_n 2, 1) := by decide +kernel
theorem dL_law_721 : decode cL_law 721 = .ok (.aload_n 0, 1) := by decide +kernel
theorem dL_law_722 : decode cL_law 722 = .ok (.iload_n 3, 1) := by decide +kernel
theorem dL_law_723 : decode cL_law 723 = .ok (.iconst 1, 1) := by decide +kernel
theorem dL_law_724 : decode cL_law 724 = .ok (.iadd, 1) := by decide +kernel
theorem dL_law_725 : decode cL_law 725 = .ok (.iaload, 1) := by decide +kernel
theorem dL_law_726 : decode cL_law 726 = .ok (.aload_n 0, 1) := by decide +kernel
theorem dL_law_727 : decode cL_law 727 = .ok (.iload_n 3, 1) := by decide +kernel
theorem dL_law_728 : decode cL_law 728 = .ok (.iconst 2, 1) := by decide +kernel
theorem dL_law_729 : decode cL_law 729 = .ok (.iadd, 1) := by decide +kernel
theorem dL_law_730 : decode cL_law 730 = .ok (.iaload, 1) := by decide +kernel
theorem dL_law_731 : decode cL_law 731 = .ok (.invokevirtual 95, 3) := by decide +kernel
theorem dL_law_734 : decode cL_law 734 = .ok (.if_icmp .eq 61, 3) := by decide +kernel
theorem dL_law_737 : decode cL_law 737 = .ok (.iconst 0, 1) := by decide +kernel
theorem dL_law_738 : decode cL_law 738 = .ok (.ireturn, 1) := by decide +kernel
theorem dL_law_739 : decode cL_law 739 = .ok (.aload_n 1, 1) := by decide +kernel
theorem dL_law_740 : decode cL_law 740 = .ok (.aload_n 0, 1) := by decide +kernel
theorem dL_law_741 : decode cL_law 741 = .ok (.iload_n 3, 1) := by decide +kernel
theorem dL_law_742 : decode cL_law 742 = .ok (.iconst 1, 1) := by decide +kernel
theorem dL_law_743 : decode cL_law 743 = .ok (.iadd, 1) := by decide +kernel
theorem dL_law_744 : decode cL_law 744 = .ok (.iaload, 1) := by decide +kernel
theorem dL_law_745 : decode cL_law 745 = .ok (.aload_n 0, 1) := by decide +kernel
theorem dL_law_746 : decode cL_law 746 = .ok (.iload_n 3, 1) := by decide +kernel
theorem dL_law_747 : decode cL_law 747 = .ok (.iconst 2, 1) := by decide +kernel
theorem dL_law_748 : decode cL_law 748 = .ok (.iadd, 1) := by decide +kernel
theorem dL_law_749 : decode cL_law 749 = .ok (.iaload, 1) := by decide +kernel
theorem dL_law_750 : decode cL_law 750 = .ok (.invokevirtual 96, 3) := by decide +kernel
theorem dL_law_753 : decode cL_law 753 = .ok (.aload_n 2, 1) := by decide +kernel
theorem dL_law_754 : decode cL_law 754 = .ok (.aload_n 0, 1) := by decide +kernel
theorem dL_law_755 : decode cL_law 755 = .ok (.iload_n 3, 1) := by decide +kernel
theorem dL_law_756 : decode cL_law 756 = .ok (.iconst 1, 1) := by decide +kernel
theorem dL_law_757 : decode cL_law 757 = .ok (.iadd, 1) := by decide +kernel
theorem dL_law_758 : decode cL_law 758 = .ok (.iaload, 1) := by decide +kernel
theorem dL_law_759 : decode cL_law 759 = .ok (.aload_n 0, 1) := by decide +kernel
theorem dL_law_760 : decode cL_law 760 = .ok (.iload_n 3, 1) := by decide +kernel
theorem dL_law_761 : decode cL_law 761 = .ok (.iconst 2, 1) := by decide +kernel
theorem dL_law_762 : decode cL_law 762 = .ok (.iadd, 1) := by decide +kernel
theorem dL_law_763 : decode cL_law 763 = .ok (.iaload, 1) := by decide +kernel
theorem dL_law_764 : decode cL_law 764 = .ok (.invokevirtual 99, 3) := by decide +kernel
theorem dL_law_767 : decode cL_law 767 = .ok (.if_icmp .eq 28, 3) := by decide +kernel
theorem dL_law_770 : decode cL_law 770 = .ok (.iconst 0, 1) := by decide +kernel
theorem dL_law_771 : decode cL_law 771 = .ok (.ireturn, 1) := by decide +kernel
theorem dL_law_772 : decode cL_law 772 = .ok (.aload_n 1, 1) := by decide +kernel
theorem dL_law_773 : decode cL_law 773 = .ok (.aload_n 0, 1) := by decide +kernel
theorem dL_law_774 : decode cL_law 774 = .ok (.iload_n 3, 1) := by decide +kernel
theorem dL_law_775 : decode cL_law 775 = .ok (.iconst 1, 1) := by decide +kernel
theorem dL_law_776 : decode cL_law 776 = .ok (.iadd, 1) := by decide +kernel
theorem dL_law_777 : decode cL_law 777 = .ok (.iaload, 1) := by decide +kernel
theorem dL_law_778 : decode cL_law 778 = .ok (.invokevirtual 100, 3) := by decide +kernel
theorem dL_law_781 : decode cL_law 781 = .ok (.aload_n 2, 1) := by decide +kernel
theorem dL_law_782 : decode cL_law 782 = .ok (.aload_n 0, 1) := by decide +kernel
theorem dL_law_783 : decode cL_law 783 = .ok (.iload_n 3, 1) := by decide +kernel
theorem dL_law_784 : decode cL_law 784 = .ok (.iconst 1, 1) := by decide +kernel
theorem dL_law_785 : decode cL_law 785 = .ok (.iadd, 1) := by decide +kernel
theorem dL_law_786 : decode cL_law 786 = .ok (.iaload, 1) := by decide +kernel
theorem dL_law_787 : decode cL_law 787 = .ok (.invokevirtual 103, 3) := by decide +kernel
theorem dL_law_790 : decode cL_law 790 = .ok (.if_icmp .eq 5, 3) := by decide +kernel
theorem dL_law_793 : decode cL_law 793 = .ok (.iconst 0, 1) := by decide +kernel
theorem dL_law_794 : decode cL_law 794 = .ok (.ireturn, 1) := by decide +kernel
theorem dL_law_795 : decode cL_law 795 = .ok (.iinc 3 6, 3) := by decide +kernel
theorem dL_law_798 : decode cL_law 798 = .ok (.goto (-780), 3) := by decide +kernel
theorem dL_law_801 : decode cL_law 801 = .ok (.iconst 1, 1) := by decide +kernel
theorem dL_law_802 : decode cL_law 802 = .ok (.ireturn, 1) := by decide +kernel
end
section
/-! A program logic over the kit's rows: one memory (a function from addresses to cells), one judgement Z, a rule an instruction. -/
/-- the tables' words that a call hands on -/
def zT : List Cond := lw_tbl.filter goodWord
theorem zT_good : GoodIn zT zT := fun w h => ⟨h, good_of_word (List.mem_filter.mp h).2⟩
theorem zT_in {w : Cond} (i : Nat) (h : lw_tbl[i]? = some w) (hg : goodWord w = true) : w ∈ zT := List.mem_filter.mpr ⟨List.mem_of_getElem? h, hg⟩
abbrev zE : Type := (FieldType × vp_A) ⊕ (Nat × List Value)
abbrev zM : Type := Nat → Option zE
def zAt (D : va_G) (U : State) (H : Heap) (a : Nat) (e : zE) : Prop := match e with
  | .inl x => ∃ cA : ClassId, ArrOfT U cA x.1 ∧ va_RA U cA x.1 ∧ H[a]? = some (vp_cell cA x.2)
  | .inr o => ∃ r : vw_C, vwCl[o.1]? = some r ∧ t_OB a (D.1 o.1) r.2.2 (D.2 o.1) H (vp_V o.2)
def zP (D : va_G) (U : State) (M : zM) (H : Heap) : Prop := ∀ (a : Nat) (e : zE), M a = some e → zAt D U H a e
def zUp (M : zM) (a : Nat) (e : zE) : zM := fun b => if b = a then some e else M b
def zA (M : zM) (sz : Nat) : Nat → Prop := fun q => M q ≠ none ∨ sz ≤ q
def zK (D : va_G) (U : State) : Prop := va_K D vwCl [] U
theorem zAt.moved {D : va_G} {u U : State} {H : Heap} {a : Nat} {e : zE} (hvm : u.vm.Alike U.vm) (h : zAt D u H a e) : zAt D U H a e := by
  cases e with
  | inl x =>
    obtain ⟨cA, h1, h2, h3⟩ := h
    exact ⟨cA, arrOfT_moved hvm h1, h2.moved hvm, h3⟩
  | inr o => exact h
theorem zAt.kept {D : va_G} {U : State} {H H1 : Heap} {a : Nat} {e : zE} (h : zAt D U H a e) (hq : H1[a]? = H[a]?) : zAt D U H1 a e := by
  cases e with
  | inl x =>
    obtain ⟨cA, h1, h2, h3⟩ := h
    exact ⟨cA, h1, h2, hq.trans h3⟩
  | inr o =>
    obtain ⟨r, h1, h2⟩ := h
    exact ⟨r, h1, h2.kept hq⟩
theorem zAt.lt {D : va_G} {U : State} {H : Heap} {a : Nat} {e : zE} (h : zAt D U H a e) : a < H.size := by
  cases e with
  | inl x =>
    obtain ⟨cA, h1, h2, h3⟩ := h
    exact (Array.getElem?_eq_some_iff.mp h3).1
  | inr o =>
    obtain ⟨r, h1, cell, h2, -⟩ := h
    exact (Array.getElem?_eq_some_iff.mp h2).1
theorem zP.moved {D : va_G} {u U : State} {H : Heap} {M : zM} (hvm : u.vm.Alike U.vm) (h : zP D u M H) : zP D U M H := fun a e he => (h a e he).moved hvm
theorem zP.set {D : va_G} {U : State} {H H1 : Heap} {M : zM} {a : Nat} {e : zE} (h : zP D U M H) (h1 : zAt D U H1 a e) (hq : ∀ q : Nat, q ≠ a → H1[q]? = H[q]?) : zP D U (zUp M a e) H1 := by
  intro b e' hb
  unfold zUp at hb
  by_cases hba : b = a
  · rw [if_pos hba] at hb
    cases hb
    rw [hba]
    exact h1
  · rw [if_neg hba] at hb
    exact (h b e' hb).kept (hq b hba)
theorem zUp_self {M : zM} {a : Nat} {e : zE} : zUp M a e a = some e := if_pos rfl
theorem zUp_ne {M : zM} {a b : Nat} {e : zE} (h : b ≠ a) : zUp M a e b = M b := if_neg h
theorem zUp_dom {M : zM} {A : Nat → Prop} {a : Nat} {e : zE} (h : ∀ q, M q ≠ none → A q) (ha : A a) : ∀ q, zUp M a e q ≠ none → A q := by
  intro q hq
  by_cases hqa : q = a
  · rw [hqa]; exact ha
  · rw [zUp_ne hqa] at hq
    exact h q hq
/-! the locals -/
def zAs : Nat → List (Option Value) → List (Nat × Value)
  | _, [] => []
  | i, none :: t => zAs (i + 1) t
  | i, some v :: t => (i, v) :: zAs (i + 1) t
theorem zAs_mem : ∀ (vs : List (Option Value)) (n i : Nat) (v : Value), vs[i]? = some (some v) → (n + i, v) ∈ zAs n vs
  | [], _, _, _, h => by simp at h
  | o :: t, n, 0, v, h => by
    simp at h
    subst h
    exact List.mem_cons_self
  | o :: t, n, i + 1, v, h => by
    have h1 : t[i]? = some (some v) := by simpa using h
    have h2 := zAs_mem t (n + 1) i v h1
    rw [show n + 1 + i = n + (i + 1) by omega] at h2
    cases o with
    | none => exact h2
    | some w => exact List.mem_cons_of_mem _ h2
theorem zAs_of : ∀ (vs : List (Option Value)) (n : Nat) (q : Nat × Value), q ∈ zAs n vs → ∃ i, q.1 = n + i ∧ vs[i]? = some (some q.2)
  | [], _, _, h => by cases h
  | none :: t, n, q, h => by
    obtain ⟨i, h1, h2⟩ := zAs_of t (n + 1) q h
    exact ⟨i + 1, by omega, by simpa using h2⟩
  | some v :: t, n, q, h => by
    rcases List.mem_cons.mp h with rfl | h
    · exact ⟨0, by simp, by simp⟩
    · obtain ⟨i, h1, h2⟩ := zAs_of t (n + 1) q h
      exact ⟨i + 1, by omega, by simpa using h2⟩
def zLs (ls : Array Slot) (nL : Nat) (vs : List (Option Value)) : Prop := lv_has ls nL (zAs 0 vs) ∧ ∀ (i : Nat) (v : Value), vs[i]? = some (some v) → v.category = 1
theorem zLs.at {ls : Array Slot} {nL : Nat} {vs : List (Option Value)} (h : zLs ls nL vs) {i : Nat} {v : Value} (hi : vs[i]? = some (some v)) : ls[i]? = some (.val v) := by
  have := h.1.2.2 (i, v) (by have := zAs_mem vs 0 i v hi; rwa [Nat.zero_add] at this)
  exact this
theorem zLs.put {ls' ls : Array Slot} {nL : Nat} {vs vs' : List (Option Value)} {i : Nat} {v : Value} (h0 : zLs ls nL vs) (hc : v.category = 1) (hv : vs.set i (some v) = vs') (h : lv_has ls' nL ((i, v) :: (zAs 0 vs).filter (fun q => !(q.1 == i) && !(q.1 + 1 == i && q.2.category == 2)))) : zLs ls' nL vs' := by
  subst hv
  refine ⟨⟨h.1, h.2.1, fun q hq => ?_⟩, fun j w hj => ?_⟩
  · obtain ⟨j, h1, h2⟩ := zAs_of _ _ q hq
    rw [Nat.zero_add] at h1
    by_cases hji : j = i
    · subst hji
      rw [List.getElem?_set_self'] at h2
      cases hg : vs[j]? with
      | none => rw [hg] at h2; simp at h2
      | some o =>
        rw [hg] at h2
        simp at h2
        have : q = (j, v) := by rw [← h1, h2]
        rw [this]
        exact h.2.2 (j, v) List.mem_cons_self
    · rw [List.getElem?_set_ne (Ne.symm hji)] at h2
      refine h.2.2 q (List.mem_cons_of_mem _ (List.mem_filter.mpr ⟨?_, ?_⟩))
      · have := zAs_mem vs 0 j q.2 h2
        rw [Nat.zero_add, ← h1] at this
        exact this
      · have hc2 := h0.2 j q.2 h2
        have hne : ¬ q.1 = i := by rw [h1]; exact hji
        simp [hne, hc2]
  · by_cases hji : j = i
    · subst hji
      rw [List.getElem?_set_self'] at hj
      cases hg : vs[j]? with
      | none => rw [hg] at hj; simp at hj
      | some o =>
        rw [hg] at hj
        simp at hj
        rw [← hj]
        exact hc
    · rw [List.getElem?_set_ne (Ne.symm hji)] at hj
      exact h0.2 j w hj
theorem zLs.sub {ls : Array Slot} {nL : Nat} {vs vs' : List (Option Value)} (h : zLs ls nL vs) (hv : ∀ (i : Nat) (v : Value), vs'[i]? = some (some v) → vs[i]? = some (some v)) : zLs ls nL vs' :=
  ⟨⟨h.1.1, h.1.2.1, fun q hq => by
    obtain ⟨j, h1, h2⟩ := zAs_of _ _ q hq
    rw [Nat.zero_add] at h1
    rw [h1]
    exact h.at (hv j q.2 h2)⟩, fun i v hi => h.2 i v (hv i v hi)⟩
/-! the judgement -/
def zC (y : MethodName) (cc : ByteArray) (nL : Nat) (ret : Option FieldType) (D : va_G) (p : Program) (s : State) (m : MethodId) (args : Array Value) (meth : Method) (c : Code) : Prop :=
  p.tables.exec = Jvm.exec ∧ c.code = cc ∧ c.maxLocals = nL ∧ meth.sig.returnType = ret ∧ s.vm.findClass y.cls = some m.cls ∧ (∀ w ∈ zT, w.before args s = true) ∧ zK D s ∧ meth.locks = false ∧ meth.name = y.name
def zQ (D : va_G) (M0 : zM) (Q : Option Value → zM → Prop) : Array Value → State → Outcome → State → Prop := fun _ st o t =>
  (∃ (v : Option Value) (M : zM), o = .returned v ∧ Q v M ∧ zP D t M t.heap ∧ ∀ q, M q ≠ none → zA M0 st.heap.size q) ∧ va_F (zA M0 st.heap.size) st t
def Z (l : Launch) (y : MethodName) (cc : ByteArray) (nL : Nat) (ret : Option FieldType) (R : Room) (mc ms : Nat) (D : va_G) (M0 : zM) (Q : Option Value → zM → Prop) (k n pc : Nat) (vs : List (Option Value)) (st : List Value) (M : zM) : Prop :=
  ∀ (p : Program) (e : Env) (s : State) (m : MethodId) (args : Array Value) (below : List Frame) (meth : Method) (c : Code), zC y cc nL ret D p s m args meth c →
    ∀ (H : Heap) (locs : List Loc) (ls : Array Slot), zLs ls nL vs → zP D s M H → (∀ q, M q ≠ none → zA M0 s.heap.size q) → va_S (zA M0 s.heap.size) s.heap H locs →
      W p l e R s m args below meth c H locs k n (MQ below (zQ D M0 Q) args s mc ms (zA M0 s.heap.size)) (F0 m pc ls st)
def zMet (l : Launch) (y : MethodName) (cc : ByteArray) (nL : Nat) (ret : Option FieldType) (rm : Room) (av : List Value) (M : zM) (Q : Option Value → zM → Prop) : Prop :=
  ∀ (D : va_G) (sz : Nat), Met l y (.code y cc nL ret :: zT) rm (va_Pc av (fun U => U.heap.size = sz ∧ zP D U M U.heap ∧ zK D U)) (zQ D M Q) rm.cells rm.slots (zA M sz)
section ZR
variable {l : Launch} {y : MethodName} {cc : ByteArray} {nL : Nat} {ret : Option FieldType} {R : Room} {mc ms : Nat} {D : va_G} {M0 : zM} {Q : Option Value → zM → Prop} {k n pc pc' : Nat} {vs vs' : List (Option Value)} {st : List Value} {M : zM}
theorem zMet.ofZ {rm : Room} {av : List Value} (hy : plainName y.cls = true) (hvs : lv_args 0 av = zAs 0 vs) (hcat : ∀ (i : Nat) (v : Value), vs[i]? = some (some v) → v.category = 1) (hlen : (lg_sl av).length ≤ nL)
    (h : ∀ D : va_G, Z l y cc nL ret rm rm.cells rm.slots D M Q 0 0 0 vs [] M) : zMet l y cc nL ret rm av M Q := by
  intro D sz
  refine Met.ofW (cc := cc) (maxL := nL) (ret := ret) hy rfl ?_
  intro p e s m args below meth c s₁ B hml hv
  obtain ⟨rfl, hsz, hP, hK⟩ := hv
  subst hsz
  have hts : ∀ w ∈ (Cond.code y cc nL ret :: zT), w.before av.toArray s = true := atoms_spec (ws := .code y cc nL ret :: zT) B.pre
  have hown : s.vm.findClass y.cls = some m.cls := findClass_of_methodNamed B.named
  have hin : meth.name = y.name := (name_of_methodNamed B.named B.method).1
  have hl := lv_entry av (n := nL) hlen
  rw [lg_entry_eq]
  generalize (lg_sl av ++ List.replicate (nL - (lg_sl av).length) Slot.unset).toArray = ls at hl ⊢
  rw [hvs] at hl
  exact h D p e s m _ below meth c ⟨B.exec, B.bytes, hml, B.returns, hown, fun w hw => hts w (List.mem_cons_of_mem _ hw), hK, B.notSynchronized, hin⟩ s.heap [] ls ⟨hl, hcat⟩ hP (fun q hq => Or.inl hq) va_S.rf
theorem Z_sub (hv : ∀ (i : Nat) (v : Value), vs'[i]? = some (some v) → vs[i]? = some (some v)) (kk : Z l y cc nL ret R mc ms D M0 Q k n pc vs' st M) : Z l y cc nL ret R mc ms D M0 Q k n pc vs st M :=
  fun p e s m args below meth c C H locs ls hls hP hA hS => kk p e s m args below meth c C H locs ls (hls.sub hv) hP hA hS
theorem Z_widen {k' n' : Nat} (h1 : k ≤ k') (h2 : n ≤ n') (kk : Z l y cc nL ret R mc ms D M0 Q k' n' pc vs st M) : Z l y cc nL ret R mc ms D M0 Q k n pc vs st M :=
  fun p e s m args below meth c C H locs ls hls hP hA hS => W.widen h1 h2 (kk p e s m args below meth c C H locs ls hls hP hA hS)
theorem Z_mem {M' : zM} (e : M = M') (kk : Z l y cc nL ret R mc ms D M0 Q k n pc vs st M') : Z l y cc nL ret R mc ms D M0 Q k n pc vs st M := e ▸ kk
theorem Z_stk {st' : List Value} (e : st = st') (kk : Z l y cc nL ret R mc ms D M0 Q k n pc vs st' M) : Z l y cc nL ret R mc ms D M0 Q k n pc vs st M := e ▸ kk
theorem Z_iconst {z : Int} {v : Int32} (hd : decode cc pc = .ok (.iconst z, 1)) (hv : Int32.ofInt z = v) (hp : pc + 1 = pc') (kk : Z l y cc nL ret R mc ms D M0 Q k n pc' vs (.int v :: st) M) : Z l y cc nL ret R mc ms D M0 Q k n pc vs st M := by
  subst hp
  exact fun p e s m args below meth c C H locs ls hls hP hA hS => lv_iconst C.1 C.2.1 hd hv (kk p e s m args below meth c C H locs ls hls hP hA hS)
theorem Z_bipush {z : Int} {v : Int32} (hd : decode cc pc = .ok (.bipush z, 2)) (hv : (Int8.ofInt z).toInt32 = v) (hp : pc + 2 = pc') (kk : Z l y cc nL ret R mc ms D M0 Q k n pc' vs (.int v :: st) M) : Z l y cc nL ret R mc ms D M0 Q k n pc vs st M := by
  subst hp
  exact fun p e s m args below meth c C H locs ls hls hP hA hS => lv_bipush C.1 C.2.1 hd hv (kk p e s m args below meth c C H locs ls hls hP hA hS)
theorem Z_sipush {z : Int} {v : Int32} (hd : decode cc pc = .ok (.sipush z, 3)) (hv : (Int16.ofInt z).toInt32 = v) (hp : pc + 3 = pc') (kk : Z l y cc nL ret R mc ms D M0 Q k n pc' vs (.int v :: st) M) : Z l y cc nL ret R mc ms D M0 Q k n pc vs st M := by
  subst hp
  exact fun p e s m args below meth c C H locs ls hls hP hA hS => lv_sipush C.1 C.2.1 hd hv (kk p e s m args below meth c C H locs ls hls hP hA hS)
theorem Z_iload_n {f : Fin 4} {i : Nat} {x : Int32} (hd : decode cc pc = .ok (.iload_n f, 1)) (hi : (f : Nat) = i) (hl : vs[i]? = some (some (.int x))) (hp : pc + 1 = pc') (kk : Z l y cc nL ret R mc ms D M0 Q k n pc' vs (.int x :: st) M) : Z l y cc nL ret R mc ms D M0 Q k n pc vs st M := by
  subst hp
  exact fun p e s m args below meth c C H locs ls hls hP hA hS => lv_iload_n C.1 C.2.1 hd hi (hls.at hl) (kk p e s m args below meth c C H locs ls hls hP hA hS)
theorem Z_iload {i : Nat} {x : Int32} (hd : decode cc pc = .ok (.iload i, 2)) (hl : vs[i]? = some (some (.int x))) (hp : pc + 2 = pc') (kk : Z l y cc nL ret R mc ms D M0 Q k n pc' vs (.int x :: st) M) : Z l y cc nL ret R mc ms D M0 Q k n pc vs st M := by
  subst hp
  exact fun p e s m args below meth c C H locs ls hls hP hA hS => lv_iload C.1 C.2.1 hd (hls.at hl) (kk p e s m args below meth c C H locs ls hls hP hA hS)
theorem Z_aload_n {f : Fin 4} {i : Nat} {x : Nat} (hd : decode cc pc = .ok (.aload_n f, 1)) (hi : (f : Nat) = i) (hl : vs[i]? = some (some (.ref x))) (hp : pc + 1 = pc') (kk : Z l y cc nL ret R mc ms D M0 Q k n pc' vs (.ref x :: st) M) : Z l y cc nL ret R mc ms D M0 Q k n pc vs st M := by
  subst hp
  exact fun p e s m args below meth c C H locs ls hls hP hA hS => lv_aload_n C.1 C.2.1 hd hi (hls.at hl) (kk p e s m args below meth c C H locs ls hls hP hA hS)
theorem Z_aload {i : Nat} {x : Nat} (hd : decode cc pc = .ok (.aload i, 2)) (hl : vs[i]? = some (some (.ref x))) (hp : pc + 2 = pc') (kk : Z l y cc nL ret R mc ms D M0 Q k n pc' vs (.ref x :: st) M) : Z l y cc nL ret R mc ms D M0 Q k n pc vs st M := by
  subst hp
  exact fun p e s m args below meth c C H locs ls hls hP hA hS => lv_aload C.1 C.2.1 hd (hls.at hl) (kk p e s m args below meth c C H locs ls hls hP hA hS)
theorem Z_istore_n {f : Fin 4} {i : Nat} {x : Int32} (hd : decode cc pc = .ok (.istore_n f, 1)) (hi : (f : Nat) = i) (hn : i < nL) (hv : vs.set i (some (.int x)) = vs') (hp : pc + 1 = pc') (kk : Z l y cc nL ret R mc ms D M0 Q k n pc' vs' st M) : Z l y cc nL ret R mc ms D M0 Q k n pc vs (.int x :: st) M := by
  subst hp
  exact fun p e s m args below meth c C H locs ls hls hP hA hS => lv_istore_n C.1 C.2.1 hd hi hls.1 hn rfl (fun ls' hl' => kk p e s m args below meth c C H locs ls' (hls.put rfl hv hl') hP hA hS)
theorem Z_istore {i : Nat} {x : Int32} (hd : decode cc pc = .ok (.istore i, 2)) (hn : i < nL) (hv : vs.set i (some (.int x)) = vs') (hp : pc + 2 = pc') (kk : Z l y cc nL ret R mc ms D M0 Q k n pc' vs' st M) : Z l y cc nL ret R mc ms D M0 Q k n pc vs (.int x :: st) M := by
  subst hp
  exact fun p e s m args below meth c C H locs ls hls hP hA hS => lv_istore C.1 C.2.1 hd hls.1 hn rfl (fun ls' hl' => kk p e s m args below meth c C H locs ls' (hls.put rfl hv hl') hP hA hS)
theorem Z_astore_n {f : Fin 4} {i : Nat} {x : Nat} (hd : decode cc pc = .ok (.astore_n f, 1)) (hi : (f : Nat) = i) (hn : i < nL) (hv : vs.set i (some (.ref x)) = vs') (hp : pc + 1 = pc') (kk : Z l y cc nL ret R mc ms D M0 Q k n pc' vs' st M) : Z l y cc nL ret R mc ms D M0 Q k n pc vs (.ref x :: st) M := by
  subst hp
  exact fun p e s m args below meth c C H locs ls hls hP hA hS => lv_astore_n C.1 C.2.1 hd hi hls.1 hn rfl (fun ls' hl' => kk p e s m args below meth c C H locs ls' (hls.put rfl hv hl') hP hA hS)
theorem Z_astore {i : Nat} {x : Nat} (hd : decode cc pc = .ok (.astore i, 2)) (hn : i < nL) (hv : vs.set i (some (.ref x)) = vs') (hp : pc + 2 = pc') (kk : Z l y cc nL ret R mc ms D M0 Q k n pc' vs' st M) : Z l y cc nL ret R mc ms D M0 Q k n pc vs (.ref x :: st) M := by
  subst hp
  exact fun p e s m args below meth c C H locs ls hls hP hA hS => lv_astore C.1 C.2.1 hd hls.1 hn rfl (fun ls' hl' => kk p e s m args below meth c C H locs ls' (hls.put rfl hv hl') hP hA hS)
theorem Z_iinc {i : Nat} {z : Int} {x v : Int32} (hd : decode cc pc = .ok (.iinc i z, 3)) (hl : vs[i]? = some (some (.int x))) (he : x + Int32.ofInt z = v) (hn : i < nL) (hv : vs.set i (some (.int v)) = vs') (hp : pc + 3 = pc') (kk : Z l y cc nL ret R mc ms D M0 Q k n pc' vs' st M) : Z l y cc nL ret R mc ms D M0 Q k n pc vs st M := by
  subst hp
  intro p e s m args below meth c C H locs ls hls hP hA hS
  obtain ⟨j, hj⟩ := List.getElem?_of_mem (show (i, Value.int x) ∈ zAs 0 vs by have := zAs_mem vs 0 i _ hl; rwa [Nat.zero_add] at this)
  exact lv_iinc C.1 C.2.1 hd hls.1 hj he hn rfl (fun ls' hl' => kk p e s m args below meth c C H locs ls' (hls.put rfl hv hl') hP hA hS)
theorem Z_iadd {a b : Int32} (hd : decode cc pc = .ok (.iadd, 1)) (hp : pc + 1 = pc') (kk : Z l y cc nL ret R mc ms D M0 Q k n pc' vs (.int (a + b) :: st) M) : Z l y cc nL ret R mc ms D M0 Q k n pc vs (.int b :: .int a :: st) M := by
  subst hp
  exact fun p e s m args below meth c C H locs ls hls hP hA hS => lv_iadd C.1 C.2.1 hd (kk p e s m args below meth c C H locs ls hls hP hA hS)
theorem Z_isub {a b : Int32} (hd : decode cc pc = .ok (.isub, 1)) (hp : pc + 1 = pc') (kk : Z l y cc nL ret R mc ms D M0 Q k n pc' vs (.int (a - b) :: st) M) : Z l y cc nL ret R mc ms D M0 Q k n pc vs (.int b :: .int a :: st) M := by
  subst hp
  exact fun p e s m args below meth c C H locs ls hls hP hA hS => lv_isub C.1 C.2.1 hd (kk p e s m args below meth c C H locs ls hls hP hA hS)
theorem Z_imul {a b : Int32} (hd : decode cc pc = .ok (.imul, 1)) (hp : pc + 1 = pc') (kk : Z l y cc nL ret R mc ms D M0 Q k n pc' vs (.int (a * b) :: st) M) : Z l y cc nL ret R mc ms D M0 Q k n pc vs (.int b :: .int a :: st) M := by
  subst hp
  exact fun p e s m args below meth c C H locs ls hls hP hA hS => lv_imul C.1 C.2.1 hd (kk p e s m args below meth c C H locs ls hls hP hA hS)
theorem Z_iand {a b : Int32} (hd : decode cc pc = .ok (.iand, 1)) (hp : pc + 1 = pc') (kk : Z l y cc nL ret R mc ms D M0 Q k n pc' vs (.int (a &&& b) :: st) M) : Z l y cc nL ret R mc ms D M0 Q k n pc vs (.int b :: .int a :: st) M := by
  subst hp
  exact fun p e s m args below meth c C H locs ls hls hP hA hS => lv_iand C.1 C.2.1 hd (kk p e s m args below meth c C H locs ls hls hP hA hS)
theorem Z_ior {a b : Int32} (hd : decode cc pc = .ok (.ior, 1)) (hp : pc + 1 = pc') (kk : Z l y cc nL ret R mc ms D M0 Q k n pc' vs (.int (a ||| b) :: st) M) : Z l y cc nL ret R mc ms D M0 Q k n pc vs (.int b :: .int a :: st) M := by
  subst hp
  exact fun p e s m args below meth c C H locs ls hls hP hA hS => lv_ior C.1 C.2.1 hd (kk p e s m args below meth c C H locs ls hls hP hA hS)
theorem Z_ixor {a b : Int32} (hd : decode cc pc = .ok (.ixor, 1)) (hp : pc + 1 = pc') (kk : Z l y cc nL ret R mc ms D M0 Q k n pc' vs (.int (a ^^^ b) :: st) M) : Z l y cc nL ret R mc ms D M0 Q k n pc vs (.int b :: .int a :: st) M := by
  subst hp
  exact fun p e s m args below meth c C H locs ls hls hP hA hS => lv_ixor C.1 C.2.1 hd (kk p e s m args below meth c C H locs ls hls hP hA hS)
end ZR
end
section
section ZS
variable {l : Launch} {y : MethodName} {cc : ByteArray} {nL : Nat} {ret : Option FieldType} {R : Room} {mc ms : Nat} {D : va_G} {M0 : zM} {Q : Option Value → zM → Prop} {k n pc pc' : Nat} {vs vs' : List (Option Value)} {st : List Value} {M : zM}
theorem Z_ishl {a b : Int32} (hd : decode cc pc = .ok (.ishl, 1)) (hp : pc + 1 = pc') (kk : Z l y cc nL ret R mc ms D M0 Q k n pc' vs (.int (a <<< (b &&& 31)) :: st) M) : Z l y cc nL ret R mc ms D M0 Q k n pc vs (.int b :: .int a :: st) M := by
  subst hp
  exact fun p e s m args below meth c C H locs ls hls hP hA hS => lv_ishl C.1 C.2.1 hd (kk p e s m args below meth c C H locs ls hls hP hA hS)
theorem Z_ishr {a b : Int32} (hd : decode cc pc = .ok (.ishr, 1)) (hp : pc + 1 = pc') (kk : Z l y cc nL ret R mc ms D M0 Q k n pc' vs (.int (a >>> (b &&& 31)) :: st) M) : Z l y cc nL ret R mc ms D M0 Q k n pc vs (.int b :: .int a :: st) M := by
  subst hp
  exact fun p e s m args below meth c C H locs ls hls hP hA hS => lv_ishr C.1 C.2.1 hd (kk p e s m args below meth c C H locs ls hls hP hA hS)
theorem Z_iushr {a b : Int32} (hd : decode cc pc = .ok (.iushr, 1)) (hp : pc + 1 = pc') (kk : Z l y cc nL ret R mc ms D M0 Q k n pc' vs (.int (a.toUInt32 >>> (b.toUInt32 &&& Int32.toUInt32 31)).toInt32 :: st) M) : Z l y cc nL ret R mc ms D M0 Q k n pc vs (.int b :: .int a :: st) M := by
  subst hp
  exact fun p e s m args below meth c C H locs ls hls hP hA hS => lv_iushr C.1 C.2.1 hd rfl (kk p e s m args below meth c C H locs ls hls hP hA hS)
theorem Z_idiv {a b : Int32} (hne : ¬ b = 0) (hd : decode cc pc = .ok (.idiv, 1)) (hp : pc + 1 = pc') (kk : Z l y cc nL ret R mc ms D M0 Q k n pc' vs (.int (a / b) :: st) M) : Z l y cc nL ret R mc ms D M0 Q k n pc vs (.int b :: .int a :: st) M := by
  subst hp
  exact fun p e s m args below meth c C H locs ls hls hP hA hS => lv_idiv C.1 C.2.1 hd hne (kk p e s m args below meth c C H locs ls hls hP hA hS)
theorem Z_irem {a b : Int32} (hne : ¬ b = 0) (hd : decode cc pc = .ok (.irem, 1)) (hp : pc + 1 = pc') (kk : Z l y cc nL ret R mc ms D M0 Q k n pc' vs (.int (a - a / b * b) :: st) M) : Z l y cc nL ret R mc ms D M0 Q k n pc vs (.int b :: .int a :: st) M := by
  subst hp
  exact fun p e s m args below meth c C H locs ls hls hP hA hS => lv_irem C.1 C.2.1 hd hne (kk p e s m args below meth c C H locs ls hls hP hA hS)
theorem Z_ineg {a : Int32} (hd : decode cc pc = .ok (.ineg, 1)) (hp : pc + 1 = pc') (kk : Z l y cc nL ret R mc ms D M0 Q k n pc' vs (.int (-a) :: st) M) : Z l y cc nL ret R mc ms D M0 Q k n pc vs (.int a :: st) M := by
  subst hp
  exact fun p e s m args below meth c C H locs ls hls hP hA hS => lv_ineg C.1 C.2.1 hd (kk p e s m args below meth c C H locs ls hls hP hA hS)
theorem Z_i2b {a : Int32} (hd : decode cc pc = .ok (.i2b, 1)) (hp : pc + 1 = pc') (kk : Z l y cc nL ret R mc ms D M0 Q k n pc' vs (.int a.toInt8.toInt32 :: st) M) : Z l y cc nL ret R mc ms D M0 Q k n pc vs (.int a :: st) M := by
  subst hp
  exact fun p e s m args below meth c C H locs ls hls hP hA hS => lv_i2b C.1 C.2.1 hd rfl (kk p e s m args below meth c C H locs ls hls hP hA hS)
theorem Z_dup {v : Value} (hc : v.category = 1) (hd : decode cc pc = .ok (.dup, 1)) (hp : pc + 1 = pc') (kk : Z l y cc nL ret R mc ms D M0 Q k n pc' vs (v :: v :: st) M) : Z l y cc nL ret R mc ms D M0 Q k n pc vs (v :: st) M := by
  subst hp
  exact fun p e s m args below meth c C H locs ls hls hP hA hS => lv_dup C.1 C.2.1 hd hc (kk p e s m args below meth c C H locs ls hls hP hA hS)
theorem Z_pop {v : Value} (hc : v.category = 1) (hd : decode cc pc = .ok (.pop, 1)) (hp : pc + 1 = pc') (kk : Z l y cc nL ret R mc ms D M0 Q k n pc' vs st M) : Z l y cc nL ret R mc ms D M0 Q k n pc vs (v :: st) M := by
  subst hp
  exact fun p e s m args below meth c C H locs ls hls hP hA hS => lv_pop C.1 C.2.1 hd hc (kk p e s m args below meth c C H locs ls hls hP hA hS)
theorem Z_null  (hd : decode cc pc = .ok (.aconst_null, 1)) (hp : pc + 1 = pc') (kk : Z l y cc nL ret R mc ms D M0 Q k n pc' vs (.null :: st) M) : Z l y cc nL ret R mc ms D M0 Q k n pc vs st M := by
  subst hp
  exact fun p e s m args below meth c C H locs ls hls hP hA hS => lv_null C.1 C.2.1 hd (kk p e s m args below meth c C H locs ls hls hP hA hS)
theorem Z_goto {off : Int} {tgt : Nat} (hd : decode cc pc = .ok (.goto off, 3)) (ht : (pc : Int) + off = (tgt : Int)) (kk : Z l y cc nL ret R mc ms D M0 Q k n tgt vs st M) : Z l y cc nL ret R mc ms D M0 Q k n pc vs st M := fun p e s m args below meth c C H locs ls hls hP hA hS => lv_goto C.1 C.2.1 hd ht (kk p e s m args below meth c C H locs ls hls hP hA hS)
theorem Z_if_eq {a : Int32} {off : Int} {tgt : Nat} (hd : decode cc pc = .ok (.ifCond .eq off, 3)) (ht : (pc : Int) + off = (tgt : Int)) (hp : pc + 3 = pc') (kt : a = 0 → Z l y cc nL ret R mc ms D M0 Q k n tgt vs st M) (kf : ¬ a = 0 → Z l y cc nL ret R mc ms D M0 Q k n pc' vs st M) : Z l y cc nL ret R mc ms D M0 Q k n pc vs (.int a :: st) M := by
  subst hp
  exact fun p e s m args below meth c C H locs ls hls hP hA hS => lv_if_eq C.1 C.2.1 hd ht (fun h => kt h p e s m args below meth c C H locs ls hls hP hA hS) (fun h => kf h p e s m args below meth c C H locs ls hls hP hA hS)
theorem Z_icmp_eq {a b : Int32} {off : Int} {tgt : Nat} (hd : decode cc pc = .ok (.if_icmp .eq off, 3)) (ht : (pc : Int) + off = (tgt : Int)) (hp : pc + 3 = pc') (kt : a = b → Z l y cc nL ret R mc ms D M0 Q k n tgt vs st M) (kf : ¬ a = b → Z l y cc nL ret R mc ms D M0 Q k n pc' vs st M) : Z l y cc nL ret R mc ms D M0 Q k n pc vs (.int b :: .int a :: st) M := by
  subst hp
  exact fun p e s m args below meth c C H locs ls hls hP hA hS => lv_icmp_eq C.1 C.2.1 hd ht (fun h => kt h p e s m args below meth c C H locs ls hls hP hA hS) (fun h => kf h p e s m args below meth c C H locs ls hls hP hA hS)
theorem Z_if_ne {a : Int32} {off : Int} {tgt : Nat} (hd : decode cc pc = .ok (.ifCond .ne off, 3)) (ht : (pc : Int) + off = (tgt : Int)) (hp : pc + 3 = pc') (kt : ¬ a = 0 → Z l y cc nL ret R mc ms D M0 Q k n tgt vs st M) (kf : a = 0 → Z l y cc nL ret R mc ms D M0 Q k n pc' vs st M) : Z l y cc nL ret R mc ms D M0 Q k n pc vs (.int a :: st) M := by
  subst hp
  exact fun p e s m args below meth c C H locs ls hls hP hA hS => lv_if_ne C.1 C.2.1 hd ht (fun h => kt h p e s m args below meth c C H locs ls hls hP hA hS) (fun h => kf h p e s m args below meth c C H locs ls hls hP hA hS)
theorem Z_icmp_ne {a b : Int32} {off : Int} {tgt : Nat} (hd : decode cc pc = .ok (.if_icmp .ne off, 3)) (ht : (pc : Int) + off = (tgt : Int)) (hp : pc + 3 = pc') (kt : ¬ a = b → Z l y cc nL ret R mc ms D M0 Q k n tgt vs st M) (kf : a = b → Z l y cc nL ret R mc ms D M0 Q k n pc' vs st M) : Z l y cc nL ret R mc ms D M0 Q k n pc vs (.int b :: .int a :: st) M := by
  subst hp
  exact fun p e s m args below meth c C H locs ls hls hP hA hS => lv_icmp_ne C.1 C.2.1 hd ht (fun h => kt h p e s m args below meth c C H locs ls hls hP hA hS) (fun h => kf h p e s m args below meth c C H locs ls hls hP hA hS)
theorem Z_if_lt {a : Int32} {off : Int} {tgt : Nat} (hd : decode cc pc = .ok (.ifCond .lt off, 3)) (ht : (pc : Int) + off = (tgt : Int)) (hp : pc + 3 = pc') (kt : a < 0 → Z l y cc nL ret R mc ms D M0 Q k n tgt vs st M) (kf : ¬ a < 0 → Z l y cc nL ret R mc ms D M0 Q k n pc' vs st M) : Z l y cc nL ret R mc ms D M0 Q k n pc vs (.int a :: st) M := by
  subst hp
  exact fun p e s m args below meth c C H locs ls hls hP hA hS => lv_if_lt C.1 C.2.1 hd ht (fun h => kt h p e s m args below meth c C H locs ls hls hP hA hS) (fun h => kf h p e s m args below meth c C H locs ls hls hP hA hS)
theorem Z_icmp_lt {a b : Int32} {off : Int} {tgt : Nat} (hd : decode cc pc = .ok (.if_icmp .lt off, 3)) (ht : (pc : Int) + off = (tgt : Int)) (hp : pc + 3 = pc') (kt : a < b → Z l y cc nL ret R mc ms D M0 Q k n tgt vs st M) (kf : ¬ a < b → Z l y cc nL ret R mc ms D M0 Q k n pc' vs st M) : Z l y cc nL ret R mc ms D M0 Q k n pc vs (.int b :: .int a :: st) M := by
  subst hp
  exact fun p e s m args below meth c C H locs ls hls hP hA hS => lv_icmp_lt C.1 C.2.1 hd ht (fun h => kt h p e s m args below meth c C H locs ls hls hP hA hS) (fun h => kf h p e s m args below meth c C H locs ls hls hP hA hS)
theorem Z_if_ge {a : Int32} {off : Int} {tgt : Nat} (hd : decode cc pc = .ok (.ifCond .ge off, 3)) (ht : (pc : Int) + off = (tgt : Int)) (hp : pc + 3 = pc') (kt : 0 ≤ a → Z l y cc nL ret R mc ms D M0 Q k n tgt vs st M) (kf : ¬ 0 ≤ a → Z l y cc nL ret R mc ms D M0 Q k n pc' vs st M) : Z l y cc nL ret R mc ms D M0 Q k n pc vs (.int a :: st) M := by
  subst hp
  exact fun p e s m args below meth c C H locs ls hls hP hA hS => lv_if_ge C.1 C.2.1 hd ht (fun h => kt h p e s m args below meth c C H locs ls hls hP hA hS) (fun h => kf h p e s m args below meth c C H locs ls hls hP hA hS)
theorem Z_icmp_ge {a b : Int32} {off : Int} {tgt : Nat} (hd : decode cc pc = .ok (.if_icmp .ge off, 3)) (ht : (pc : Int) + off = (tgt : Int)) (hp : pc + 3 = pc') (kt : b ≤ a → Z l y cc nL ret R mc ms D M0 Q k n tgt vs st M) (kf : ¬ b ≤ a → Z l y cc nL ret R mc ms D M0 Q k n pc' vs st M) : Z l y cc nL ret R mc ms D M0 Q k n pc vs (.int b :: .int a :: st) M := by
  subst hp
  exact fun p e s m args below meth c C H locs ls hls hP hA hS => lv_icmp_ge C.1 C.2.1 hd ht (fun h => kt h p e s m args below meth c C H locs ls hls hP hA hS) (fun h => kf h p e s m args below meth c C H locs ls hls hP hA hS)
theorem Z_if_gt {a : Int32} {off : Int} {tgt : Nat} (hd : decode cc pc = .ok (.ifCond .gt off, 3)) (ht : (pc : Int) + off = (tgt : Int)) (hp : pc + 3 = pc') (kt : 0 < a → Z l y cc nL ret R mc ms D M0 Q k n tgt vs st M) (kf : ¬ 0 < a → Z l y cc nL ret R mc ms D M0 Q k n pc' vs st M) : Z l y cc nL ret R mc ms D M0 Q k n pc vs (.int a :: st) M := by
  subst hp
  exact fun p e s m args below meth c C H locs ls hls hP hA hS => lv_if_gt C.1 C.2.1 hd ht (fun h => kt h p e s m args below meth c C H locs ls hls hP hA hS) (fun h => kf h p e s m args below meth c C H locs ls hls hP hA hS)
theorem Z_icmp_gt {a b : Int32} {off : Int} {tgt : Nat} (hd : decode cc pc = .ok (.if_icmp .gt off, 3)) (ht : (pc : Int) + off = (tgt : Int)) (hp : pc + 3 = pc') (kt : b < a → Z l y cc nL ret R mc ms D M0 Q k n tgt vs st M) (kf : ¬ b < a → Z l y cc nL ret R mc ms D M0 Q k n pc' vs st M) : Z l y cc nL ret R mc ms D M0 Q k n pc vs (.int b :: .int a :: st) M := by
  subst hp
  exact fun p e s m args below meth c C H locs ls hls hP hA hS => lv_icmp_gt C.1 C.2.1 hd ht (fun h => kt h p e s m args below meth c C H locs ls hls hP hA hS) (fun h => kf h p e s m args below meth c C H locs ls hls hP hA hS)
theorem Z_if_le {a : Int32} {off : Int} {tgt : Nat} (hd : decode cc pc = .ok (.ifCond .le off, 3)) (ht : (pc : Int) + off = (tgt : Int)) (hp : pc + 3 = pc') (kt : a ≤ 0 → Z l y cc nL ret R mc ms D M0 Q k n tgt vs st M) (kf : ¬ a ≤ 0 → Z l y cc nL ret R mc ms D M0 Q k n pc' vs st M) : Z l y cc nL ret R mc ms D M0 Q k n pc vs (.int a :: st) M := by
  subst hp
  exact fun p e s m args below meth c C H locs ls hls hP hA hS => lv_if_le C.1 C.2.1 hd ht (fun h => kt h p e s m args below meth c C H locs ls hls hP hA hS) (fun h => kf h p e s m args below meth c C H locs ls hls hP hA hS)
theorem Z_icmp_le {a b : Int32} {off : Int} {tgt : Nat} (hd : decode cc pc = .ok (.if_icmp .le off, 3)) (ht : (pc : Int) + off = (tgt : Int)) (hp : pc + 3 = pc') (kt : a ≤ b → Z l y cc nL ret R mc ms D M0 Q k n tgt vs st M) (kf : ¬ a ≤ b → Z l y cc nL ret R mc ms D M0 Q k n pc' vs st M) : Z l y cc nL ret R mc ms D M0 Q k n pc vs (.int b :: .int a :: st) M := by
  subst hp
  exact fun p e s m args below meth c C H locs ls hls hP hA hS => lv_icmp_le C.1 C.2.1 hd ht (fun h => kt h p e s m args below meth c C H locs ls hls hP hA hS) (fun h => kf h p e s m args below meth c C H locs ls hls hP hA hS)
theorem Z_ifnull {x : Nat} {off : Int} (hd : decode cc pc = .ok (.ifnull off, 3)) (hp : pc + 3 = pc') (kk : Z l y cc nL ret R mc ms D M0 Q k n pc' vs st M) : Z l y cc nL ret R mc ms D M0 Q k n pc vs (.ref x :: st) M := by
  subst hp
  exact fun p e s m args below meth c C H locs ls hls hP hA hS => lv_ifnull C.1 C.2.1 hd (kk p e s m args below meth c C H locs ls hls hP hA hS)
theorem Z_ifnullN {off : Int} {tgt : Nat} (hd : decode cc pc = .ok (.ifnull off, 3)) (ht : (pc : Int) + off = (tgt : Int)) (kk : Z l y cc nL ret R mc ms D M0 Q k n tgt vs st M) : Z l y cc nL ret R mc ms D M0 Q k n pc vs (.null :: st) M := fun p e s m args below meth c C H locs ls hls hP hA hS => lv_ifnullN C.1 C.2.1 hd ht (kk p e s m args below meth c C H locs ls hls hP hA hS)
theorem Z_ifnonnull {x : Nat} {off : Int} {tgt : Nat} (hd : decode cc pc = .ok (.ifnonnull off, 3)) (ht : (pc : Int) + off = (tgt : Int)) (kk : Z l y cc nL ret R mc ms D M0 Q k n tgt vs st M) : Z l y cc nL ret R mc ms D M0 Q k n pc vs (.ref x :: st) M := fun p e s m args below meth c C H locs ls hls hP hA hS => lv_ifnonnull C.1 C.2.1 hd ht (kk p e s m args below meth c C H locs ls hls hP hA hS)
theorem Z_ifnonnullN {off : Int} (hd : decode cc pc = .ok (.ifnonnull off, 3)) (hp : pc + 3 = pc') (kk : Z l y cc nL ret R mc ms D M0 Q k n pc' vs st M) : Z l y cc nL ret R mc ms D M0 Q k n pc vs (.null :: st) M := by
  subst hp
  exact fun p e s m args below meth c C H locs ls hls hP hA hS => lv_ifnonnullN C.1 C.2.1 hd (kk p e s m args below meth c C H locs ls hls hP hA hS)
theorem Z_aload_nN {f : Fin 4} {i : Nat} (hd : decode cc pc = .ok (.aload_n f, 1)) (hi : (f : Nat) = i) (hl : vs[i]? = some (some .null)) (hp : pc + 1 = pc') (kk : Z l y cc nL ret R mc ms D M0 Q k n pc' vs (.null :: st) M) : Z l y cc nL ret R mc ms D M0 Q k n pc vs st M := by
  subst hp
  exact fun p e s m args below meth c C H locs ls hls hP hA hS => lv_aload_nN C.1 C.2.1 hd hi (hls.at hl) (kk p e s m args below meth c C H locs ls hls hP hA hS)
theorem Z_aloadN {i : Nat} (hd : decode cc pc = .ok (.aload i, 2)) (hl : vs[i]? = some (some .null)) (hp : pc + 2 = pc') (kk : Z l y cc nL ret R mc ms D M0 Q k n pc' vs (.null :: st) M) : Z l y cc nL ret R mc ms D M0 Q k n pc vs st M := by
  subst hp
  exact fun p e s m args below meth c C H locs ls hls hP hA hS => lv_aloadN C.1 C.2.1 hd (hls.at hl) (kk p e s m args below meth c C H locs ls hls hP hA hS)
theorem Z_astore_nN {f : Fin 4} {i : Nat} (hd : decode cc pc = .ok (.astore_n f, 1)) (hi : (f : Nat) = i) (hn : i < nL) (hv : vs.set i (some .null) = vs') (hp : pc + 1 = pc') (kk : Z l y cc nL ret R mc ms D M0 Q k n pc' vs' st M) : Z l y cc nL ret R mc ms D M0 Q k n pc vs (.null :: st) M := by
  subst hp
  exact fun p e s m args below meth c C H locs ls hls hP hA hS => lv_astore_nN C.1 C.2.1 hd hi hls.1 hn rfl (fun ls' hl' => kk p e s m args below meth c C H locs ls' (hls.put rfl hv hl') hP hA hS)
theorem Z_astoreN {i : Nat} (hd : decode cc pc = .ok (.astore i, 2)) (hn : i < nL) (hv : vs.set i (some .null) = vs') (hp : pc + 2 = pc') (kk : Z l y cc nL ret R mc ms D M0 Q k n pc' vs' st M) : Z l y cc nL ret R mc ms D M0 Q k n pc vs (.null :: st) M := by
  subst hp
  exact fun p e s m args below meth c C H locs ls hls hP hA hS => lv_astoreN C.1 C.2.1 hd hls.1 hn rfl (fun ls' hl' => kk p e s m args below meth c C H locs ls' (hls.put rfl hv hl') hP hA hS)
theorem z_nI_int {j : Nat} (h : j < 2 ^ 31) : (nI j).toInt = (j : Int) := nI_toInt h
theorem z_sw_out {x : Int32} {hi : Nat} (h : ∀ j : Nat, j < hi + 1 → ¬ x = nI j) : x.toInt < 0 ∨ (hi : Int) < x.toInt := by
  by_cases h1 : x.toInt < 0
  · exact Or.inl h1
  · refine Or.inr ?_
    by_cases h2 : (hi : Int) < x.toInt
    · exact h2
    · exfalso
      obtain ⟨j, hj, e⟩ := nI_of (x := x) (fun q => by have := Int32.lt_iff_toInt_lt.mp q; simp at this; omega)
      have h3 : x.toInt = (j : Int) := by rw [e]; exact nI_toInt hj
      exact h j (by omega) e
theorem Z_tin {dflt hi : Int} {offs : Array Int} {len : Nat} {x : Int32} {off : Int} {tgt j : Nat} (hd : decode cc pc = .ok (.tableswitch dflt 0 hi offs, len)) (hx : x = nI j) (hj : j < 2 ^ 31) (hh : (j : Int) ≤ hi) (ho : offs[j]? = some off) (ht : (pc : Int) + off = (tgt : Int)) (kk : Z l y cc nL ret R mc ms D M0 Q k n tgt vs st M) : Z l y cc nL ret R mc ms D M0 Q k n pc vs (.int x :: st) M := by
  have hi' : x.toInt = (j : Int) := by rw [hx]; exact nI_toInt hj
  exact fun p e s m args below meth c C H locs ls hls hP hA hS => lv_tableIn C.1 C.2.1 hd (by rw [hi']; omega) (by rw [hi']; omega) (by rw [hi']; simpa using ho) ht (kk p e s m args below meth c C H locs ls hls hP hA hS)
theorem Z_tout {dflt : Int} {hi : Nat} {offs : Array Int} {len : Nat} {x : Int32} {tgt : Nat} (hd : decode cc pc = .ok (.tableswitch dflt 0 (hi : Int) offs, len)) (h : ∀ j : Nat, j < hi + 1 → ¬ x = nI j) (ht : (pc : Int) + dflt = (tgt : Int)) (kk : Z l y cc nL ret R mc ms D M0 Q k n tgt vs st M) : Z l y cc nL ret R mc ms D M0 Q k n pc vs (.int x :: st) M := fun p e s m args below meth c C H locs ls hls hP hA hS => lv_tableOut C.1 C.2.1 hd (z_sw_out h) ht (kk p e s m args below meth c C H locs ls hls hP hA hS)
theorem z_end {s t : State} {H : Heap} {locs : List Loc} {v : Option Value} {args : Array Value} (hP : zP D s M H) (hA : ∀ q, M q ≠ none → zA M0 s.heap.size q) (hS : va_S (zA M0 s.heap.size) s.heap H locs) (hq : Q v M) (ht : t.heap = H) (hW : s.WarmedH t.vm) : zQ D M0 Q args s (.returned v) t :=
  ⟨⟨v, M, rfl, hq, by rw [ht]; exact hP.moved hW.alike, hA⟩, hS.F ht⟩
theorem z_ret {p : Program} {e : Env} {s : State} {m : MethodId} {args : Array Value} {below : List Frame} {meth : Method} {c : Code} {H : Heap} {locs : List Loc} {cells slots : Nat} {Qc : Array Value → State → Outcome → State → Prop} {free : Addr → Prop} {v w : Int32} {ty : FieldType} (hexec : p.tables.exec = Jvm.exec) (hb : c.code = cc) (hr : meth.sig.returnType = some ty) (hn : narrow ty (.int v) = .int w)
    (hq : ∀ t : State, t.heap = H → s.WarmedH t.vm → Qc args s (.returned (some (.int w))) t) (hf : ∀ q ∈ locs, free q.base)
    {ls : Array Slot} (hdg : decode cc pc = .ok (.ireturn, 1)) (hlocks : meth.locks = false) : W p l e R s m args below meth c H locs cells slots (MQ below Qc args s cells slots free) (F0 m pc ls [.int v]) := by
  intro T hT X
  have hlocks : meth.locks = false := hlocks
  obtain ⟨fs, hret, hrun, hended, hW, hframe⟩ := X.leave (v := some (.int w)) (fun h => by rw [hr] at h; cases h)
  have hmeth' : T.vm.method? m = some meth := X.method'
  refine ⟨T.setFrames fs, ?_, .returned (some (.int w)), hrun, hended, hq _ hT hW, locs, ⟨⟨_, rfl⟩, hW, hframe⟩, hf⟩
  jvm_step X.here [X.here.top, hexec, hb, hdg, hmeth', hr, hn]
  (try refine ⟨rfl, ?_⟩); (try refine ⟨rfl, ?_⟩)
  first | (intro acts; rw [hret _ acts rfl rfl rfl]) | rw [hret _ _ rfl rfl rfl]
  exact Steps.refl _
theorem Z_iret {v w : Int32} {ty : FieldType} (hd : decode cc pc = .ok (.ireturn, 1)) (hr : ret = some ty) (hn : narrow ty (.int v) = .int w) (hc : k ≤ mc) (hs : n ≤ ms) (hq : Q (some (.int w)) M) : Z l y cc nL ret R mc ms D M0 Q k n pc vs [.int v] M := fun p e s m args below meth c C H locs ls hls hP hA hS => W.widen hc hs (z_ret C.1 C.2.1 (C.2.2.2.1.trans hr) hn (fun t ht hW => z_end hP hA hS hq ht hW) hS.2.2 hd C.2.2.2.2.2.2.2.1)
theorem Z_vret (hd : decode cc pc = .ok (.return_, 1)) (hr : ret = none) (hc : k ≤ mc) (hs : n ≤ ms) (hq : Q none M) : Z l y cc nL ret R mc ms D M0 Q k n pc vs [] M := fun p e s m args below meth c C H locs ls hls hP hA hS => W.widen hc hs (W.vret C.1 C.2.1 (C.2.2.2.1.trans hr) (fun t ht hW => z_end hP hA hS hq ht hW) hS.2.2 hd C.2.2.2.2.2.2.2.1)
theorem Z_aret {v : Value} {rt : FieldType} (hd : decode cc pc = .ok (.areturn, 1)) (hr : ret = some rt) (hrt : (∃ n, rt = .object n) ∨ ∃ t, rt = .array t) (hv : v = .null ∨ ∃ a, v = .ref a) (hc : k ≤ mc) (hs : n ≤ ms) (hq : Q (some v) M) : Z l y cc nL ret R mc ms D M0 Q k n pc vs [v] M := fun p e s m args below meth c C H locs ls hls hP hA hS => W.widen hc hs (W.aret C.1 C.2.1 (C.2.2.2.1.trans hr) hrt hv (fun t ht hW => z_end hP hA hS hq ht hW) hS.2.2 hd C.2.2.2.2.2.2.2.1)
end ZS
end
section
section ZM
variable {l : Launch} {y : MethodName} {cc : ByteArray} {nL : Nat} {ret : Option FieldType} {R : Room} {mc ms : Nat} {D : va_G} {M0 : zM} {Q : Option Value → zM → Prop} {k n pc pc' : Nat} {vs vs' : List (Option Value)} {st : List Value} {M : zM}
theorem Z_get {C : String} {T : u_T} {N ci idx a : Nat} {fs : List Value} {v : Value} (kf : Nat) (hin : ∀ w ∈ u_ws C T N, w ∈ zT) (hc : vwCl[ci]? = some (C, T, N)) (hk : kf < N) (hlk : Cond.fieldLink y.cls idx (T kf).1 (T kf).2.1 (T kf).2.2.1 ∈ zT) (hM : M a = some (.inr (ci, fs))) (hv : fs[kf]? = some v) (hd : decode cc pc = .ok (.getfield idx, 3)) (hp : pc + 3 = pc') (kk : Z l y cc nL ret R mc ms D M0 Q k n pc' vs (v :: st) M) : Z l y cc nL ret R mc ms D M0 Q k n pc vs (.ref a :: st) M := by
  subst hp
  intro p e s m args below meth c C H locs ls hls hP hA hS
  have h1 : va_P D vwCl [(a, .inr (ci, fs))] H := fun j q hj => by
    have hz : j < 1 := (List.getElem?_eq_some_iff.mp hj).1
    rw [show j = 0 by omega] at hj
    cases hj
    exact hP a _ hM
  exact va_get (D := D) (cl := vwCl) (tys := []) (ws := [(a, .inr (ci, fs))]) C.1 C.2.1 C.2.2.2.2.2.1 hin C.2.2.2.2.1 C.2.2.2.2.2.2.1 h1 0 rfl hc kf hk (C.2.2.2.2.2.1 _ hlk) (fun _ h9 => h9) hv hd (kk p e s m args below meth c C H locs ls hls hP hA hS)
theorem Z_put {C : String} {T : u_T} {N ci idx a : Nat} {fs fs' : List Value} {v : Value} {ty : FieldType} {ty0 : Nat → FieldType} (kf : Nat) (hin : ∀ w ∈ u_ws C T N, w ∈ zT) (hty : ∀ k, k < N → parseFieldDescriptor (T k).2.2.1 = some (ty0 k)) (hnm : ∀ a, a < N → ∀ b, b < N → a ≠ b → (T a).2.1 ≠ (T b).2.1) (hc : vwCl[ci]? = some (C, T, N)) (hk : kf < N) (hlk : Cond.fieldLink y.cls idx (T kf).1 (T kf).2.1 (T kf).2.2.1 ∈ zT) (hfin : (T kf).2.2.2 = false) (hM : M a = some (.inr (ci, fs))) (hd0 : ty0 kf = ty) (hn : narrow ty v = v) (hfit : fits ty v = true) (hl : kf < fs.length) (hv : fs.set kf v = fs') (hd : decode cc pc = .ok (.putfield idx, 3)) (hp : pc + 3 = pc') (kk : Z l y cc nL ret R mc ms D M0 Q k n pc' vs st (zUp M a (.inr (ci, fs')))) : Z l y cc nL ret R mc ms D M0 Q k n pc vs (v :: .ref a :: st) M := by
  subst hp
  subst hv
  intro p e s m args below meth c C' H locs ls hls hP hA hS
  obtain ⟨hexec, hb, -, -, hown, hts, hK, -, -⟩ := id C'
  have hap := va_apart (own := y.cls) hts hin ty0 hty hnm hK hc
  obtain ⟨r, h1, cell, q1, q2, q3, q4⟩ := hP a _ hM
  have hr : r = (C, T, N) := Option.some.inj (h1.symm.trans hc)
  subst hr
  obtain ⟨hSl, hfc, kC, hkC, hkind⟩ := hK.1 ci _ hc
  obtain ⟨cf, kf', fi, f, hi, hsl⟩ := hSl kf hk
  have hlay := hts _ (hin _ (u_in_lay hk))
  unfold u_lay at hlay
  rw [if_neg (by rw [hfin]; decide)] at hlay
  have hst := (u_facts hfc hkC (u_lays hts hin hk) hi).1
  have hdd : parseFieldDescriptor (T kf).2.2.1 = some ty := by rw [← hd0]; exact hty kf hk
  have h6 := u_store hfc hkC hkind hlay hi hdd hn hfit
  refine W.putK hexec hb (f := f) ⟨hown, hts _ hlk, ⟨_, _, _, hi⟩, hst⟩ (by rw [q2]; exact h6) q1 q3 (by rw [hsl]; exact k2_hasslot (q4 kf hk)) rfl rfl hd fun H' e1 e2 e3 => ?_
  rw [hsl] at e1 ⊢
  have haA : zA M0 s.heap.size a := hA a (by rw [hM]; exact fun h => by cases h)
  exact kk p e s m args below meth c C' H' _ ls hls (hP.set ⟨_, hc, t_OB.to (V := updV (vp_V fs) kf v) ⟨_, e1, q2, q3, t_set q4 hap hk v⟩ (fun j _ => vp_updV_set hl v j)⟩ e3) (zUp_dom hA haA) (hS.put e2 e3 haA)
theorem Z_putF {C : String} {T : u_T} {N ci idx a : Nat} {fs fs' : List Value} {v : Value} {ty : FieldType} {ty0 : Nat → FieldType} (kf : Nat) (hin : ∀ w ∈ u_ws C T N, w ∈ zT) (hty : ∀ k, k < N → parseFieldDescriptor (T k).2.2.1 = some (ty0 k)) (hnm : ∀ a, a < N → ∀ b, b < N → a ≠ b → (T a).2.1 ≠ (T b).2.1) (hc : vwCl[ci]? = some (C, T, N)) (hk : kf < N) (hlk : Cond.fieldLink y.cls idx (T kf).1 (T kf).2.1 (T kf).2.2.1 ∈ zT) (hfin : (T kf).2.2.2 = true) (hin2 : y.name = "<init>") (hdecl : (T kf).1 = y.cls) (hM : M a = some (.inr (ci, fs))) (hd0 : ty0 kf = ty) (hn : narrow ty v = v) (hfit : fits ty v = true) (hl : kf < fs.length) (hv : fs.set kf v = fs') (hd : decode cc pc = .ok (.putfield idx, 3)) (hp : pc + 3 = pc') (kk : Z l y cc nL ret R mc ms D M0 Q k n pc' vs st (zUp M a (.inr (ci, fs')))) : Z l y cc nL ret R mc ms D M0 Q k n pc vs (v :: .ref a :: st) M := by
  subst hp
  subst hv
  intro p e s m args below meth c C' H locs ls hls hP hA hS
  obtain ⟨hexec, hb, -, -, hown, hts, hK, -, hnam⟩ := id C'
  have hap := va_apart (own := y.cls) hts hin ty0 hty hnm hK hc
  obtain ⟨r, h1, cell, q1, q2, q3, q4⟩ := hP a _ hM
  have hr : r = (C, T, N) := Option.some.inj (h1.symm.trans hc)
  subst hr
  obtain ⟨hSl, hfc, kC, hkC, hkind⟩ := hK.1 ci _ hc
  obtain ⟨cf, kf', fi, f, hi, hsl⟩ := hSl kf hk
  have hlay := hts _ (hin _ (u_in_lay hk))
  unfold u_lay at hlay
  rw [if_pos hfin] at hlay
  have hst := (u_facts hfc hkC (u_lays hts hin hk) hi).1
  have hcf : m.cls = cf := by
    obtain ⟨_, _, c', _, _, _, -, -, hf', -, -, -, hown2, -⟩ := Cond.laysFinal_spec hlay
    have e1 : c' = cf := by have := hi.symm.trans hf'; simp at this; exact this.1.symm
    rw [hdecl] at hown2
    rw [← e1]; exact Option.some.inj (hown.symm.trans hown2)
  have hdd : parseFieldDescriptor (T kf).2.2.1 = some ty := by rw [← hd0]; exact hty kf hk
  have h6 := u_fits hfc hkC hkind (Or.inr hlay) hi hdd hn hfit
  refine W.putFinK hexec hb hown (hts _ hlk) hi hst hcf (hnam.trans hin2) (by rw [q2]; exact h6) q1 q3 (by rw [hsl]; exact k2_hasslot (q4 kf hk)) rfl rfl hd fun H' e1 e2 e3 => ?_
  rw [hsl] at e1 ⊢
  have haA : zA M0 s.heap.size a := hA a (by rw [hM]; exact fun h => by cases h)
  exact kk p e s m args below meth c C' H' _ ls hls (hP.set ⟨_, hc, t_OB.to (V := updV (vp_V fs) kf v) ⟨_, e1, q2, q3, t_set q4 hap hk v⟩ (fun j _ => vp_updV_set hl v j)⟩ e3) (zUp_dom hA haA) (hS.put e2 e3 haA)
theorem Z_iald {a len : Nat} {f : Nat → Int32} {i : Int32} (hM : M a = some (.inl (.int, len, .inl f))) (hi : vp_in i len) (hd : decode cc pc = .ok (.iaload, 1)) (hp : pc + 1 = pc') (kk : Z l y cc nL ret R mc ms D M0 Q k n pc' vs (.int (f i.toNatClampNeg) :: st) M) : Z l y cc nL ret R mc ms D M0 Q k n pc vs (.int i :: .ref a :: st) M := by
  subst hp
  intro p e s m args below meth c C H locs ls hls hP hA hS
  obtain ⟨cA, h1, h2, h3⟩ := hP a _ hM
  have hlt : i.toNatClampNeg < len := Nat.not_le.mp fun q => hi (Or.inr q)
  exact W.iald (v := .int (f i.toNatClampNeg)) C.1 C.2.1 h3 (h1 len (fun j => .int (f j))) (fun q => by cases q) (by show ¬ (i < 0 ∨ (arrV _ _ _).slots.size ≤ _); rw [arrV_size]; exact hi) (by show (arrV _ _ _).slots[_]? = _; rw [arrV_read _ _ hlt]) rfl rfl hd (kk p e s m args below meth c C H locs ls hls hP hA hS)
theorem Z_bald {a len : Nat} {f : Nat → Int32} {i : Int32} (hM : M a = some (.inl (.byte, len, .inl f))) (hi : vp_in i len) (hd : decode cc pc = .ok (.baload, 1)) (hp : pc + 1 = pc') (kk : Z l y cc nL ret R mc ms D M0 Q k n pc' vs (.int (f i.toNatClampNeg) :: st) M) : Z l y cc nL ret R mc ms D M0 Q k n pc vs (.int i :: .ref a :: st) M := by
  subst hp
  intro p e s m args below meth c C H locs ls hls hP hA hS
  obtain ⟨cA, h1, h2, h3⟩ := hP a _ hM
  have hlt : i.toNatClampNeg < len := Nat.not_le.mp fun q => hi (Or.inr q)
  exact W.bald (v := .int (f i.toNatClampNeg)) C.1 C.2.1 h3 (h1 len (fun j => .int (f j))) (fun q => by cases q) (by show ¬ (i < 0 ∨ (arrV _ _ _).slots.size ≤ _); rw [arrV_size]; exact hi) (by show (arrV _ _ _).slots[_]? = _; rw [arrV_read _ _ hlt]) rfl rfl hd (kk p e s m args below meth c C H locs ls hls hP hA hS)
theorem Z_zald {a len : Nat} {f : Nat → Int32} {i : Int32} (hM : M a = some (.inl (.boolean, len, .inl f))) (hi : vp_in i len) (hd : decode cc pc = .ok (.baload, 1)) (hp : pc + 1 = pc') (kk : Z l y cc nL ret R mc ms D M0 Q k n pc' vs (.int (f i.toNatClampNeg) :: st) M) : Z l y cc nL ret R mc ms D M0 Q k n pc vs (.int i :: .ref a :: st) M := by
  subst hp
  intro p e s m args below meth c C H locs ls hls hP hA hS
  obtain ⟨cA, h1, h2, h3⟩ := hP a _ hM
  have hlt : i.toNatClampNeg < len := Nat.not_le.mp fun q => hi (Or.inr q)
  exact W.zald (v := .int (f i.toNatClampNeg)) C.1 C.2.1 h3 (h1 len (fun j => .int (f j))) (fun q => by cases q) (by show ¬ (i < 0 ∨ (arrV _ _ _).slots.size ≤ _); rw [arrV_size]; exact hi) (by show (arrV _ _ _).slots[_]? = _; rw [arrV_read _ _ hlt]) rfl rfl hd (kk p e s m args below meth c C H locs ls hls hP hA hS)
theorem Z_aald {a len : Nat} {ty : FieldType} {f : Nat → Option Nat} {i : Int32} (hty : ty.isReference = true) (hM : M a = some (.inl (ty, len, .inr (.inr (.inr (.inr f)))))) (hi : vp_in i len) (hd : decode cc pc = .ok (.aaload, 1)) (hp : pc + 1 = pc') (kk : Z l y cc nL ret R mc ms D M0 Q k n pc' vs (va_rf (f i.toNatClampNeg) :: st) M) : Z l y cc nL ret R mc ms D M0 Q k n pc vs (.int i :: .ref a :: st) M := by
  subst hp
  intro p e s m args below meth c C H locs ls hls hP hA hS
  obtain ⟨cA, h1, h2, h3⟩ := hP a _ hM
  have hlt : i.toNatClampNeg < len := Nat.not_le.mp fun q => hi (Or.inr q)
  exact W.aald (v := va_rf (f i.toNatClampNeg)) (ty := ty) C.1 C.2.1 h3 (h1 len (fun j => va_rf (f j))) hty (fun q => by cases q) (by show ¬ (i < 0 ∨ (arrV _ _ _).slots.size ≤ _); rw [arrV_size]; exact hi) (by show (arrV _ _ _).slots[_]? = _; rw [arrV_read _ _ hlt]) rfl rfl hd (kk p e s m args below meth c C H locs ls hls hP hA hS)
theorem Z_iast {a len : Nat} {f : Nat → Int32} {i x : Int32} (hM : M a = some (.inl (.int, len, .inl f))) (hi : vp_in i len) (hd : decode cc pc = .ok (.iastore, 1)) (hp : pc + 1 = pc') (kk : Z l y cc nL ret R mc ms D M0 Q k n pc' vs st (zUp M a (.inl (.int, len, .inl (upd f i.toNatClampNeg x))))) : Z l y cc nL ret R mc ms D M0 Q k n pc vs (.int x :: .int i :: .ref a :: st) M := by
  subst hp
  intro p e s m args below meth c C H locs ls hls hP hA hS
  obtain ⟨cA, h1, h2, h3⟩ := hP a _ hM
  refine W.iast C.1 C.2.1 h3 (h1 len (fun j => .int (f j))) (fun q => by cases q) (by show ¬ (i < 0 ∨ (arrV _ _ _).slots.size ≤ _); rw [arrV_size]; exact hi) rfl rfl hd fun H1 e1 z oq => ?_
  have haA : zA M0 s.heap.size a := hA a (by rw [hM]; exact fun h => by cases h)
  refine kk p e s m args below meth c C H1 _ ls hls (hP.set ⟨cA, h1, h2, ?_⟩ oq) (zUp_dom hA haA) (hS.put z oq haA)
  show H1[a]? = some (vp_cell _ _)
  rw [e1]
  rw [vp_cell_i, vp_cell_i, arrV_store]
  congr 2
  funext q
  by_cases hq : q = i.toNatClampNeg
  · subst hq
    simp [updV, upd]
  · simp [updV, upd, hq]
theorem Z_bast {a len : Nat} {f : Nat → Int32} {i x : Int32} (hM : M a = some (.inl (.byte, len, .inl f))) (hi : vp_in i len) (hd : decode cc pc = .ok (.bastore, 1)) (hp : pc + 1 = pc') (kk : Z l y cc nL ret R mc ms D M0 Q k n pc' vs st (zUp M a (.inl (.byte, len, .inl (upd f i.toNatClampNeg (vp_nar .byte x)))))) : Z l y cc nL ret R mc ms D M0 Q k n pc vs (.int x :: .int i :: .ref a :: st) M := by
  subst hp
  intro p e s m args below meth c C H locs ls hls hP hA hS
  obtain ⟨cA, h1, h2, h3⟩ := hP a _ hM
  refine W.bast C.1 C.2.1 h3 (h1 len (fun j => .int (f j))) (fun q => by cases q) (by show ¬ (i < 0 ∨ (arrV _ _ _).slots.size ≤ _); rw [arrV_size]; exact hi) rfl rfl hd fun H1 e1 z oq => ?_
  have haA : zA M0 s.heap.size a := hA a (by rw [hM]; exact fun h => by cases h)
  refine kk p e s m args below meth c C H1 _ ls hls (hP.set ⟨cA, h1, h2, ?_⟩ oq) (zUp_dom hA haA) (hS.put z oq haA)
  show H1[a]? = some (vp_cell _ _)
  rw [e1]
  rw [vp_cell_i, vp_cell_i, arrV_store]
  congr 2
  funext q
  by_cases hq : q = i.toNatClampNeg
  · subst hq
    simp [updV, upd, vp_nar]
    try rfl
  · simp [updV, upd, hq]
theorem Z_zast {a len : Nat} {f : Nat → Int32} {i x : Int32} (hM : M a = some (.inl (.boolean, len, .inl f))) (hi : vp_in i len) (hd : decode cc pc = .ok (.bastore, 1)) (hp : pc + 1 = pc') (kk : Z l y cc nL ret R mc ms D M0 Q k n pc' vs st (zUp M a (.inl (.boolean, len, .inl (upd f i.toNatClampNeg (vp_nar .boolean x)))))) : Z l y cc nL ret R mc ms D M0 Q k n pc vs (.int x :: .int i :: .ref a :: st) M := by
  subst hp
  intro p e s m args below meth c C H locs ls hls hP hA hS
  obtain ⟨cA, h1, h2, h3⟩ := hP a _ hM
  refine W.zast C.1 C.2.1 h3 (h1 len (fun j => .int (f j))) (fun q => by cases q) (by show ¬ (i < 0 ∨ (arrV _ _ _).slots.size ≤ _); rw [arrV_size]; exact hi) rfl rfl hd fun H1 e1 z oq => ?_
  have haA : zA M0 s.heap.size a := hA a (by rw [hM]; exact fun h => by cases h)
  refine kk p e s m args below meth c C H1 _ ls hls (hP.set ⟨cA, h1, h2, ?_⟩ oq) (zUp_dom hA haA) (hS.put z oq haA)
  show H1[a]? = some (vp_cell _ _)
  rw [e1]
  rw [vp_cell_i, vp_cell_i, arrV_store]
  congr 2
  funext q
  by_cases hq : q = i.toNatClampNeg
  · subst hq
    simp [updV, upd, vp_nar]
    try rfl
  · simp [updV, upd, hq]
/-! calls -/
def zCk (y : MethodName) (cc : ByteArray) (nL : Nat) (ret : Option FieldType) (np : Nat) : Prop := Cond.code y cc nL ret ∈ zT ∧ Cond.initialized y.cls ∈ zT ∧ (y.cls ≠ "java/lang/invoke/MethodHandle" ∧ y.cls ≠ "java/lang/invoke/VarHandle" ∧ (parseMethodDescriptor y.desc).map (fun d => d.parameters.length) = some np)
theorem z_blind {D : va_G} {sz : Nat} {av : List Value} : FrameBlind (va_Pc av (fun U => U.heap.size = sz ∧ zP D U M U.heap ∧ zK D U)) := by
  intro a U g mk h
  obtain ⟨h0, h1, h2, h3⟩ := h
  exact ⟨h0, h1, zP.moved (u := U) (U := U.calling g mk a) (Vm.Alike.refl U.vm) h2, va_K.moved (u := U) (U := U.calling g mk a) (Vm.Alike.refl U.vm) h3⟩
theorem z_good {y' : MethodName} {cc' : ByteArray} {nL' : Nat} {ret' : Option FieldType} (h : Cond.code y' cc' nL' ret' ∈ zT) : GoodIn zT (Cond.code y' cc' nL' ret' :: zT) := fun w hw => (List.mem_cons.mp hw).elim (fun e => e ▸ zT_good _ h) (fun q => zT_good w q)
theorem z_callB {s : State} {args : Array Value} {y' : MethodName} {cc' : ByteArray} {nL' np idx : Nat} {ret' : Option FieldType} {rm : Room} (hts : ∀ w ∈ zT, w.before args s = true) (ck : zCk y' cc' nL' ret' np) (ml : Cond.methodLink y.cls idx y' ∈ zT) (hR : rm.frames + 1 ≤ R.frames ∧ 8 + (nL' + 11) + rm.locals ≤ R.locals) : CallB R s args y.cls idx y' cc' nL' ret' (Cond.code y' cc' nL' ret' :: zT) rm rm.cells rm.slots np :=
  callB_of np hts (z_good ck.1) rfl rfl rfl (hts _ ck.2.1) (hts _ ml) ck.2.2 hR
theorem z_back {p : Program} {e : Env} {s : State} {m : MethodId} {args : Array Value} {below : List Frame} {meth : Method} {c : Code} {H : Heap} {locs : List Loc} {ls : Array Slot} {st0 : List Value} {a : Array Value} {c1 s1 k' n' : Nat} {Q' : Option Value → zM → Prop}
    (C : zC y cc nL ret D p s m args meth c) (hls : zLs ls nL vs) (hA : ∀ q, M q ≠ none → zA M0 s.heap.size q) (hS : va_S (zA M0 s.heap.size) s.heap H locs)
    (hr : va_Run p l e R s m args below meth c H locs k n c1 s1 (F0 m pc ls st0) st (zQ D M Q' a) (zA M H.size)) (hk : k + c1 = k') (hn : n + s1 = n') (hp : pc + 3 = pc')
    (kk : ∀ (v : Option Value) (M' : zM), Q' v M' → Z l y cc nL ret R mc ms D M0 Q k' n' pc' vs (v.toList ++ st) M') : W p l e R s m args below meth c H locs k n (MQ below (zQ D M0 Q) args s mc ms (zA M0 s.heap.size)) (F0 m pc ls st0) := by
  subst hk
  subst hn
  subst hp
  intro T hT X
  obtain ⟨v, st₀, t, T', L, h0, X', hL, e1, e2, ⟨⟨v', M', hv, hq, hp', hdom⟩, hz, hkp⟩, stp⟩ := hr T hT X
  cases hv
  rw [h0] at hz hkp hdom
  have hvm : s.vm.Alike t.vm := by rw [← e2]; exact X'.warmed.alike
  have up : ∀ q, zA M H.size q → zA M0 s.heap.size q := fun q h => h.elim (hA q) (fun h => Or.inr (Nat.le_trans hS.1 h))
  obtain ⟨t2, a1, b1⟩ := kk v M' hq p e s m args below meth c C T'.heap (locs ++ L) ls hls (by rw [e1]; exact hp'.moved hvm.symm) (fun q h => up q (hdom q h))
    ⟨Nat.le_trans hS.1 (by rw [e1]; exact hz), fun q h1 h2 => by rw [e1, hkp q (Nat.lt_of_lt_of_le h1 hS.1) (fun z => h2 (up q z))]; exact hS.2.1 q h1 h2, fun q hq => by
      rcases List.mem_append.mp hq with h | h
      · exact hS.2.2 q h
      · exact up _ (hL q h)⟩ T' rfl X'
  exact ⟨t2, stp t2 a1, b1⟩
theorem Z_callV {y' : MethodName} {cc' : ByteArray} {nL' np idx ci b k' n' : Nat} {ret' : Option FieldType} {rm : Room} {As st0 fs : List Value} {T' : u_T} {N' : Nat} {Q' : Option Value → zM → Prop}
    (hM' : zMet l y' cc' nL' ret' rm (.ref b :: As) M Q') (ck : zCk y' cc' nL' ret' np) (kv : Cond.instanceMethod y' ∈ zT ∧ Cond.selects y'.cls y' y' ∈ zT) (ml : Cond.methodLink y.cls idx y' ∈ zT) (hb : M b = some (.inr (ci, fs))) (hc : vwCl[ci]? = some (y'.cls, T', N'))
    (hn : As.length = np) (hst : st0 = As.reverse ++ .ref b :: st) (hcat : (st.map fun v => v.category).sum ≤ 8) (hR : rm.frames + 1 ≤ R.frames ∧ 8 + (nL' + 11) + rm.locals ≤ R.locals) (hroom : k + rm.cells ≤ R.cells ∧ n + rm.slots ≤ R.slots) (hd : decode cc pc = .ok (.invokevirtual idx, 3)) (hk : k + rm.cells = k') (hn2 : n + rm.slots = n') (hp : pc + 3 = pc')
    (kk : ∀ (v : Option Value) (M' : zM), Q' v M' → Z l y cc nL ret R mc ms D M0 Q k' n' pc' vs (v.toList ++ st) M') : Z l y cc nL ret R mc ms D M0 Q k n pc vs st0 M := by
  intro p e s m args below meth c C H locs ls hls hP hA hS
  obtain ⟨hexec, hbt, hml, -, hown, hts, hK, -, -⟩ := id C
  refine z_back C hls hA hS (va_runV (As := As) (rest := st) ⟨hexec, hbt, hml, hown, hts⟩ (hM' D H.size) ⟨z_callB hts ck ml hR, hts _ kv.1, hts _ kv.2⟩ ⟨z_blind, ?_, fun U hU hW => ⟨rfl, by rw [hU], by rw [hU]; exact hP.moved hW.alike, va_K.moved hW.alike hK⟩⟩ rfl hn hls.1.1 hst (lv_room hcat) hd hroom) hk hn2 hp kk
  obtain ⟨r, h1, cell, g1, g2, g3, -⟩ := hP b _ hb
  exact ⟨cell, g1, by rw [g3]; rfl, by rw [g2]; exact (hK.1 ci _ hc).2.1⟩
theorem Z_callS {y' : MethodName} {cc' : ByteArray} {nL' np idx k' n' : Nat} {ret' : Option FieldType} {rm : Room} {As st0 : List Value} {Q' : Option Value → zM → Prop}
    (hM' : zMet l y' cc' nL' ret' rm As M Q') (ck : zCk y' cc' nL' ret' np) (kv : Cond.static y' ∈ zT) (ml : Cond.methodLink y.cls idx y' ∈ zT)
    (hn : As.length = np) (hst : st0 = As.reverse ++ st) (hcat : (st.map fun v => v.category).sum ≤ 8) (hR : rm.frames + 1 ≤ R.frames ∧ 8 + (nL' + 11) + rm.locals ≤ R.locals) (hroom : k + rm.cells ≤ R.cells ∧ n + rm.slots ≤ R.slots) (hd : decode cc pc = .ok (.invokestatic idx, 3)) (hk : k + rm.cells = k') (hn2 : n + rm.slots = n') (hp : pc + 3 = pc')
    (kk : ∀ (v : Option Value) (M' : zM), Q' v M' → Z l y cc nL ret R mc ms D M0 Q k' n' pc' vs (v.toList ++ st) M') : Z l y cc nL ret R mc ms D M0 Q k n pc vs st0 M := by
  intro p e s m args below meth c C H locs ls hls hP hA hS
  obtain ⟨hexec, hbt, hml, -, hown, hts, hK, -, -⟩ := id C
  exact z_back C hls hA hS (va_runS (As := As) (rest := st) ⟨hexec, hbt, hml, hown, hts⟩ (hM' D H.size) ⟨z_callB hts ck ml hR, hts _ kv⟩ ⟨z_blind, fun U hU hW => ⟨rfl, by rw [hU], by rw [hU]; exact hP.moved hW.alike, va_K.moved hW.alike hK⟩⟩ rfl hn hls.1.1 hst (lv_room hcat) hd hroom) hk hn2 hp kk
theorem Z_callI {y' : MethodName} {cc' : ByteArray} {nL' np idx b k' n' : Nat} {rm : Room} {As st0 : List Value} {Q' : Option Value → zM → Prop}
    (hM' : zMet l y' cc' nL' none rm (.ref b :: As) M Q') (ck : zCk y' cc' nL' none np) (kv : Cond.instanceMethod y' ∈ zT) (hy : y'.name = "<init>") (ml : Cond.methodLink y.cls idx y' ∈ zT)
    (hn : As.length = np) (hst : st0 = As.reverse ++ .ref b :: st) (hcat : (st.map fun v => v.category).sum ≤ 8) (hR : rm.frames + 1 ≤ R.frames ∧ 8 + (nL' + 11) + rm.locals ≤ R.locals) (hroom : k + rm.cells ≤ R.cells ∧ n + rm.slots ≤ R.slots) (hd : decode cc pc = .ok (.invokespecial idx, 3)) (hk : k + rm.cells = k') (hn2 : n + rm.slots = n') (hp : pc + 3 = pc')
    (kk : ∀ (v : Option Value) (M' : zM), Q' v M' → Z l y cc nL ret R mc ms D M0 Q k' n' pc' vs (v.toList ++ st) M') : Z l y cc nL ret R mc ms D M0 Q k n pc vs st0 M := by
  intro p e s m args below meth c C H locs ls hls hP hA hS
  obtain ⟨hexec, hbt, hml, -, hown, hts, hK, -, -⟩ := id C
  exact z_back C hls hA hS (va_runI (As := As) (rest := st) ⟨hexec, hbt, hml, hown, hts⟩ (hM' D H.size) ⟨z_callB hts ck ml hR, hy, hts _ kv⟩ ⟨z_blind, fun U hU hW => ⟨rfl, by rw [hU], by rw [hU]; exact hP.moved hW.alike, va_K.moved hW.alike hK⟩⟩ rfl hn hls.1.1 hst (lv_room hcat) hd hroom) hk hn2 hp kk
end ZM
end
section
theorem zT_ws {ws : List Cond} (ps : List Nat) (hp : ws = ps.filterMap (fun i => lw_tbl[i]?)) (h : ws.all goodWord = true) : ∀ w ∈ ws, w ∈ zT := by
  intro w hw
  have h1 := List.all_eq_true.mp h w hw
  rw [hp] at hw
  obtain ⟨i, -, hi⟩ := List.mem_filterMap.mp hw
  exact zT_in i hi h1
theorem zinX0 : ∀ w ∈ u_ws RX0 TX0 2, w ∈ zT := zT_ws [99, 101] (by decide +kernel) (by decide +kernel)
theorem zinX1 : ∀ w ∈ u_ws RX1 TX1 8, w ∈ zT := zT_ws [504, 506, 508, 510, 512, 514, 516, 518] (by decide +kernel) (by decide +kernel)
theorem zinX2 : ∀ w ∈ u_ws RX2 TX2 2, w ∈ zT := zT_ws [120, 122] (by decide +kernel) (by decide +kernel)
theorem zinX3 : ∀ w ∈ u_ws RX3 TX3 4, w ∈ zT := zT_ws [318, 320, 322, 324] (by decide +kernel) (by decide +kernel)
theorem zinX4 : ∀ w ∈ u_ws RX4 TX4 9, w ∈ zT := zT_ws [144, 146, 148, 150, 152, 154, 156, 158, 160] (by decide +kernel) (by decide +kernel)
theorem zinX5 : ∀ w ∈ u_ws RX5 TX5 2, w ∈ zT := zT_ws [76, 78] (by decide +kernel) (by decide +kernel)
theorem zinX6 : ∀ w ∈ u_ws RX6 TX6 10, w ∈ zT := zT_ws [388, 390, 392, 394, 396, 398, 400, 402, 404, 406] (by decide +kernel) (by decide +kernel)
theorem zinX7 : ∀ w ∈ u_ws RX7 TX7 11, w ∈ zT := zT_ws [174, 176, 178, 180, 182, 184, 186, 188, 190, 192, 194] (by decide +kernel) (by decide +kernel)
theorem zinX8 : ∀ w ∈ u_ws RX8 TX8 42, w ∈ zT := zT_ws [762, 764, 766, 768, 770, 772, 774, 776, 778, 780, 782, 784, 786, 788, 790, 792, 794, 796, 798, 800, 802, 804, 806, 808, 810, 812, 814, 816, 818, 820, 822, 824, 826, 828, 830, 832, 834, 836, 838, 840, 842, 844] (by decide +kernel) (by decide +kernel)
theorem lkX7_10 : Cond.fieldLink RX7 10 (TX7 0).1 (TX7 0).2.1 (TX7 0).2.2.1 ∈ zT := zT_in 163 (by decide +kernel) (by decide +kernel)
theorem lkX7_19 : Cond.fieldLink RX7 19 (TX7 1).1 (TX7 1).2.1 (TX7 1).2.2.1 ∈ zT := zT_in 164 (by decide +kernel) (by decide +kernel)
theorem lkX7_25 : Cond.fieldLink RX7 25 (TX7 2).1 (TX7 2).2.1 (TX7 2).2.2.1 ∈ zT := zT_in 165 (by decide +kernel) (by decide +kernel)
theorem lkX7_31 : Cond.fieldLink RX7 31 (TX7 3).1 (TX7 3).2.1 (TX7 3).2.2.1 ∈ zT := zT_in 166 (by decide +kernel) (by decide +kernel)
theorem lkX7_38 : Cond.fieldLink RX7 38 (TX7 4).1 (TX7 4).2.1 (TX7 4).2.2.1 ∈ zT := zT_in 167 (by decide +kernel) (by decide +kernel)
theorem lkX7_45 : Cond.fieldLink RX7 45 (TX7 5).1 (TX7 5).2.1 (TX7 5).2.2.1 ∈ zT := zT_in 168 (by decide +kernel) (by decide +kernel)
theorem lkX7_49 : Cond.fieldLink RX7 49 (TX7 6).1 (TX7 6).2.1 (TX7 6).2.2.1 ∈ zT := zT_in 169 (by decide +kernel) (by decide +kernel)
theorem lkX7_53 : Cond.fieldLink RX7 53 (TX7 7).1 (TX7 7).2.1 (TX7 7).2.2.1 ∈ zT := zT_in 170 (by decide +kernel) (by decide +kernel)
theorem lkX7_57 : Cond.fieldLink RX7 57 (TX7 8).1 (TX7 8).2.1 (TX7 8).2.2.1 ∈ zT := zT_in 171 (by decide +kernel) (by decide +kernel)
theorem lkX7_60 : Cond.fieldLink RX7 60 (TX7 9).1 (TX7 9).2.1 (TX7 9).2.2.1 ∈ zT := zT_in 172 (by decide +kernel) (by decide +kernel)
theorem lkX7_63 : Cond.fieldLink RX7 63 (TX7 10).1 (TX7 10).2.1 (TX7 10).2.2.1 ∈ zT := zT_in 173 (by decide +kernel) (by decide +kernel)
theorem lkX7_66 : Cond.fieldLink RX7 66 (TX5 1).1 (TX5 1).2.1 (TX5 1).2.2.1 ∈ zT := zT_in 75 (by decide +kernel) (by decide +kernel)
theorem lkX7_90 : Cond.fieldLink RX7 90 (TX3 0).1 (TX3 0).2.1 (TX3 0).2.2.1 ∈ zT := zT_in 311 (by decide +kernel) (by decide +kernel)
theorem lkX7_109 : Cond.fieldLink RX7 109 (TX3 1).1 (TX3 1).2.1 (TX3 1).2.2.1 ∈ zT := zT_in 313 (by decide +kernel) (by decide +kernel)
theorem lkX7_132 : Cond.fieldLink RX7 132 (TX6 0).1 (TX6 0).2.1 (TX6 0).2.2.1 ∈ zT := zT_in 368 (by decide +kernel) (by decide +kernel)
theorem lkX7_143 : Cond.fieldLink RX7 143 (TX3 2).1 (TX3 2).2.1 (TX3 2).2.2.1 ∈ zT := zT_in 315 (by decide +kernel) (by decide +kernel)
theorem lkX7_146 : Cond.fieldLink RX7 146 (TX6 1).1 (TX6 1).2.1 (TX6 1).2.2.1 ∈ zT := zT_in 371 (by decide +kernel) (by decide +kernel)
theorem lkX7_149 : Cond.fieldLink RX7 149 (TX6 4).1 (TX6 4).2.1 (TX6 4).2.2.1 ∈ zT := zT_in 377 (by decide +kernel) (by decide +kernel)
theorem lkX7_156 : Cond.fieldLink RX7 156 (TX1 6).1 (TX1 6).2.1 (TX1 6).2.2.1 ∈ zT := zT_in 502 (by decide +kernel) (by decide +kernel)
theorem lkX7_185 : Cond.fieldLink RX7 185 (TX1 4).1 (TX1 4).2.1 (TX1 4).2.2.1 ∈ zT := zT_in 498 (by decide +kernel) (by decide +kernel)
theorem lkX7_191 : Cond.fieldLink RX7 191 (TX1 5).1 (TX1 5).2.1 (TX1 5).2.2.1 ∈ zT := zT_in 500 (by decide +kernel) (by decide +kernel)
theorem lkX7_197 : Cond.fieldLink RX7 197 (TX6 2).1 (TX6 2).2.1 (TX6 2).2.2.1 ∈ zT := zT_in 373 (by decide +kernel) (by decide +kernel)
theorem lkX7_200 : Cond.fieldLink RX7 200 (TX6 5).1 (TX6 5).2.1 (TX6 5).2.2.1 ∈ zT := zT_in 379 (by decide +kernel) (by decide +kernel)
theorem lkX7_203 : Cond.fieldLink RX7 203 (TX6 3).1 (TX6 3).2.1 (TX6 3).2.2.1 ∈ zT := zT_in 375 (by decide +kernel) (by decide +kernel)
theorem lkX7_221 : Cond.fieldLink RX7 221 (TX6 6).1 (TX6 6).2.1 (TX6 6).2.2.1 ∈ zT := zT_in 381 (by decide +kernel) (by decide +kernel)
theorem lkX7_227 : Cond.fieldLink RX7 227 (TX6 9).1 (TX6 9).2.1 (TX6 9).2.2.1 ∈ zT := zT_in 387 (by decide +kernel) (by decide +kernel)
theorem lkX7_230 : Cond.fieldLink RX7 230 (TX6 8).1 (TX6 8).2.1 (TX6 8).2.2.1 ∈ zT := zT_in 385 (by decide +kernel) (by decide +kernel)
theorem lkX7_233 : Cond.fieldLink RX7 233 (TX6 7).1 (TX6 7).2.1 (TX6 7).2.2.1 ∈ zT := zT_in 383 (by decide +kernel) (by decide +kernel)
theorem lkX7_246 : Cond.fieldLink RX7 246 (TX2 1).1 (TX2 1).2.1 (TX2 1).2.2.1 ∈ zT := zT_in 119 (by decide +kernel) (by decide +kernel)
theorem lkX7_247 : Cond.fieldLink RX7 247 (TX2 0).1 (TX2 0).2.1 (TX2 0).2.2.1 ∈ zT := zT_in 117 (by decide +kernel) (by decide +kernel)
theorem lkX7_254 : Cond.fieldLink RX7 254 (TX1 0).1 (TX1 0).2.1 (TX1 0).2.2.1 ∈ zT := zT_in 485 (by decide +kernel) (by decide +kernel)
theorem lkX7_263 : Cond.fieldLink RX7 263 (TX4 6).1 (TX4 6).2.1 (TX4 6).2.2.1 ∈ zT := zT_in 140 (by decide +kernel) (by decide +kernel)
theorem lkX7_266 : Cond.fieldLink RX7 266 (TX4 8).1 (TX4 8).2.1 (TX4 8).2.2.1 ∈ zT := zT_in 143 (by decide +kernel) (by decide +kernel)
theorem lkX7_297 : Cond.fieldLink RX7 297 (TX3 3).1 (TX3 3).2.1 (TX3 3).2.2.1 ∈ zT := zT_in 317 (by decide +kernel) (by decide +kernel)
theorem lkX7_305 : Cond.fieldLink RX7 305 (TX1 1).1 (TX1 1).2.1 (TX1 1).2.2.1 ∈ zT := zT_in 488 (by decide +kernel) (by decide +kernel)
theorem lkX7_308 : Cond.fieldLink RX7 308 (TX1 3).1 (TX1 3).2.1 (TX1 3).2.2.1 ∈ zT := zT_in 494 (by decide +kernel) (by decide +kernel)
theorem lkX7_312 : Cond.fieldLink RX7 312 (TX1 2).1 (TX1 2).2.1 (TX1 2).2.2.1 ∈ zT := zT_in 490 (by decide +kernel) (by decide +kernel)
theorem lkX0_20 : Cond.fieldLink RX0 20 (TX0 0).1 (TX0 0).2.1 (TX0 0).2.2.1 ∈ zT := zT_in 97 (by decide +kernel) (by decide +kernel)
theorem lkX0_23 : Cond.fieldLink RX0 23 (TX0 1).1 (TX0 1).2.1 (TX0 1).2.2.1 ∈ zT := zT_in 98 (by decide +kernel) (by decide +kernel)
theorem lkX1_9 : Cond.fieldLink RX1 9 (TX1 4).1 (TX1 4).2.1 (TX1 4).2.2.1 ∈ zT := zT_in 495 (by decide +kernel) (by decide +kernel)
theorem lkX1_15 : Cond.fieldLink RX1 15 (TX1 5).1 (TX1 5).2.1 (TX1 5).2.2.1 ∈ zT := zT_in 499 (by decide +kernel) (by decide +kernel)
theorem lkX1_18 : Cond.fieldLink RX1 18 (TX1 6).1 (TX1 6).2.1 (TX1 6).2.2.1 ∈ zT := zT_in 501 (by decide +kernel) (by decide +kernel)
theorem lkX1_21 : Cond.fieldLink RX1 21 (TX1 7).1 (TX1 7).2.1 (TX1 7).2.2.1 ∈ zT := zT_in 503 (by decide +kernel) (by decide +kernel)
theorem lkX1_25 : Cond.fieldLink RX1 25 (TX1 0).1 (TX1 0).2.1 (TX1 0).2.2.1 ∈ zT := zT_in 483 (by decide +kernel) (by decide +kernel)
theorem lkX1_28 : Cond.fieldLink RX1 28 (TX1 1).1 (TX1 1).2.1 (TX1 1).2.2.1 ∈ zT := zT_in 486 (by decide +kernel) (by decide +kernel)
theorem lkX1_31 : Cond.fieldLink RX1 31 (TX1 2).1 (TX1 2).2.1 (TX1 2).2.2.1 ∈ zT := zT_in 489 (by decide +kernel) (by decide +kernel)
theorem lkX1_34 : Cond.fieldLink RX1 34 (TX1 3).1 (TX1 3).2.1 (TX1 3).2.2.1 ∈ zT := zT_in 491 (by decide +kernel) (by decide +kernel)
theorem lkX2_11 : Cond.fieldLink RX2 11 (TX2 0).1 (TX2 0).2.1 (TX2 0).2.2.1 ∈ zT := zT_in 116 (by decide +kernel) (by decide +kernel)
theorem lkX2_17 : Cond.fieldLink RX2 17 (TX2 1).1 (TX2 1).2.1 (TX2 1).2.2.1 ∈ zT := zT_in 118 (by decide +kernel) (by decide +kernel)
theorem lkX2_29 : Cond.fieldLink RX2 29 (TX1 4).1 (TX1 4).2.1 (TX1 4).2.2.1 ∈ zT := zT_in 497 (by decide +kernel) (by decide +kernel)
theorem lkX2_35 : Cond.fieldLink RX2 35 (TX1 3).1 (TX1 3).2.1 (TX1 3).2.2.1 ∈ zT := zT_in 493 (by decide +kernel) (by decide +kernel)
theorem lkX2_46 : Cond.fieldLink RX2 46 (TX1 0).1 (TX1 0).2.1 (TX1 0).2.2.1 ∈ zT := zT_in 484 (by decide +kernel) (by decide +kernel)
theorem lkX2_49 : Cond.fieldLink RX2 49 (TX1 1).1 (TX1 1).2.1 (TX1 1).2.2.1 ∈ zT := zT_in 487 (by decide +kernel) (by decide +kernel)
theorem lkX3_7 : Cond.fieldLink RX3 7 (TX3 1).1 (TX3 1).2.1 (TX3 1).2.2.1 ∈ zT := zT_in 312 (by decide +kernel) (by decide +kernel)
theorem lkX3_13 : Cond.fieldLink RX3 13 (TX3 2).1 (TX3 2).2.1 (TX3 2).2.2.1 ∈ zT := zT_in 314 (by decide +kernel) (by decide +kernel)
theorem lkX3_17 : Cond.fieldLink RX3 17 (TX3 3).1 (TX3 3).2.1 (TX3 3).2.2.1 ∈ zT := zT_in 316 (by decide +kernel) (by decide +kernel)
theorem lkX3_20 : Cond.fieldLink RX3 20 (TX3 0).1 (TX3 0).2.1 (TX3 0).2.2.1 ∈ zT := zT_in 310 (by decide +kernel) (by decide +kernel)
theorem lkX4_11 : Cond.fieldLink RX4 11 (TX4 0).1 (TX4 0).2.1 (TX4 0).2.2.1 ∈ zT := zT_in 133 (by decide +kernel) (by decide +kernel)
theorem lkX4_15 : Cond.fieldLink RX4 15 (TX4 1).1 (TX4 1).2.1 (TX4 1).2.2.1 ∈ zT := zT_in 134 (by decide +kernel) (by decide +kernel)
theorem lkX4_18 : Cond.fieldLink RX4 18 (TX4 2).1 (TX4 2).2.1 (TX4 2).2.2.1 ∈ zT := zT_in 135 (by decide +kernel) (by decide +kernel)
theorem lkX4_21 : Cond.fieldLink RX4 21 (TX4 3).1 (TX4 3).2.1 (TX4 3).2.2.1 ∈ zT := zT_in 136 (by decide +kernel) (by decide +kernel)
theorem lkX4_25 : Cond.fieldLink RX4 25 (TX4 4).1 (TX4 4).2.1 (TX4 4).2.2.1 ∈ zT := zT_in 137 (by decide +kernel) (by decide +kernel)
theorem lkX4_28 : Cond.fieldLink RX4 28 (TX4 5).1 (TX4 5).2.1 (TX4 5).2.2.1 ∈ zT := zT_in 138 (by decide +kernel) (by decide +kernel)
theorem lkX4_31 : Cond.fieldLink RX4 31 (TX4 6).1 (TX4 6).2.1 (TX4 6).2.2.1 ∈ zT := zT_in 139 (by decide +kernel) (by decide +kernel)
theorem lkX4_36 : Cond.fieldLink RX4 36 (TX4 7).1 (TX4 7).2.1 (TX4 7).2.2.1 ∈ zT := zT_in 141 (by decide +kernel) (by decide +kernel)
theorem lkX4_39 : Cond.fieldLink RX4 39 (TX4 8).1 (TX4 8).2.1 (TX4 8).2.2.1 ∈ zT := zT_in 142 (by decide +kernel) (by decide +kernel)
theorem lkX4_42 : Cond.fieldLink RX4 42 (TX6 0).1 (TX6 0).2.1 (TX6 0).2.2.1 ∈ zT := zT_in 367 (by decide +kernel) (by decide +kernel)
theorem lkX4_47 : Cond.fieldLink RX4 47 (TX6 1).1 (TX6 1).2.1 (TX6 1).2.2.1 ∈ zT := zT_in 370 (by decide +kernel) (by decide +kernel)
theorem lkX4_50 : Cond.fieldLink RX4 50 (TX1 3).1 (TX1 3).2.1 (TX1 3).2.2.1 ∈ zT := zT_in 492 (by decide +kernel) (by decide +kernel)
theorem lkX4_53 : Cond.fieldLink RX4 53 (TX1 4).1 (TX1 4).2.1 (TX1 4).2.2.1 ∈ zT := zT_in 496 (by decide +kernel) (by decide +kernel)
theorem lkX5_9 : Cond.fieldLink RX5 9 (TX5 0).1 (TX5 0).2.1 (TX5 0).2.2.1 ∈ zT := zT_in 73 (by decide +kernel) (by decide +kernel)
theorem lkX5_15 : Cond.fieldLink RX5 15 (TX5 1).1 (TX5 1).2.1 (TX5 1).2.2.1 ∈ zT := zT_in 74 (by decide +kernel) (by decide +kernel)
theorem lkX6_9 : Cond.fieldLink RX6 9 (TX6 2).1 (TX6 2).2.1 (TX6 2).2.2.1 ∈ zT := zT_in 372 (by decide +kernel) (by decide +kernel)
theorem lkX6_15 : Cond.fieldLink RX6 15 (TX6 3).1 (TX6 3).2.1 (TX6 3).2.2.1 ∈ zT := zT_in 374 (by decide +kernel) (by decide +kernel)
theorem lkX6_18 : Cond.fieldLink RX6 18 (TX6 4).1 (TX6 4).2.1 (TX6 4).2.2.1 ∈ zT := zT_in 376 (by decide +kernel) (by decide +kernel)
theorem lkX6_21 : Cond.fieldLink RX6 21 (TX6 5).1 (TX6 5).2.1 (TX6 5).2.2.1 ∈ zT := zT_in 378 (by decide +kernel) (by decide +kernel)
theorem lkX6_25 : Cond.fieldLink RX6 25 (TX6 6).1 (TX6 6).2.1 (TX6 6).2.2.1 ∈ zT := zT_in 380 (by decide +kernel) (by decide +kernel)
theorem lkX6_28 : Cond.fieldLink RX6 28 (TX6 7).1 (TX6 7).2.1 (TX6 7).2.2.1 ∈ zT := zT_in 382 (by decide +kernel) (by decide +kernel)
theorem lkX6_32 : Cond.fieldLink RX6 32 (TX6 8).1 (TX6 8).2.1 (TX6 8).2.2.1 ∈ zT := zT_in 384 (by decide +kernel) (by decide +kernel)
theorem lkX6_35 : Cond.fieldLink RX6 35 (TX6 9).1 (TX6 9).2.1 (TX6 9).2.2.1 ∈ zT := zT_in 386 (by decide +kernel) (by decide +kernel)
theorem lkX6_38 : Cond.fieldLink RX6 38 (TX6 0).1 (TX6 0).2.1 (TX6 0).2.2.1 ∈ zT := zT_in 366 (by decide +kernel) (by decide +kernel)
theorem lkX6_41 : Cond.fieldLink RX6 41 (TX6 1).1 (TX6 1).2.1 (TX6 1).2.2.1 ∈ zT := zT_in 369 (by decide +kernel) (by decide +kernel)
theorem lkX8_7 : Cond.fieldLink RX8 7 (TX8 0).1 (TX8 0).2.1 (TX8 0).2.2.1 ∈ zT := zT_in 720 (by decide +kernel) (by decide +kernel)
theorem lkX8_13 : Cond.fieldLink RX8 13 (TX8 2).1 (TX8 2).2.1 (TX8 2).2.2.1 ∈ zT := zT_in 722 (by decide +kernel) (by decide +kernel)
theorem lkX8_17 : Cond.fieldLink RX8 17 (TX8 3).1 (TX8 3).2.1 (TX8 3).2.2.1 ∈ zT := zT_in 723 (by decide +kernel) (by decide +kernel)
theorem lkX8_20 : Cond.fieldLink RX8 20 (TX8 4).1 (TX8 4).2.1 (TX8 4).2.2.1 ∈ zT := zT_in 724 (by decide +kernel) (by decide +kernel)
theorem lkX8_24 : Cond.fieldLink RX8 24 (TX8 7).1 (TX8 7).2.1 (TX8 7).2.2.1 ∈ zT := zT_in 727 (by decide +kernel) (by decide +kernel)
theorem lkX8_27 : Cond.fieldLink RX8 27 (TX8 8).1 (TX8 8).2.1 (TX8 8).2.2.1 ∈ zT := zT_in 728 (by decide +kernel) (by decide +kernel)
theorem lkX8_30 : Cond.fieldLink RX8 30 (TX8 9).1 (TX8 9).2.1 (TX8 9).2.2.1 ∈ zT := zT_in 729 (by decide +kernel) (by decide +kernel)
theorem lkX8_34 : Cond.fieldLink RX8 34 (TX8 10).1 (TX8 10).2.1 (TX8 10).2.2.1 ∈ zT := zT_in 730 (by decide +kernel) (by decide +kernel)
theorem lkX8_37 : Cond.fieldLink RX8 37 (TX8 12).1 (TX8 12).2.1 (TX8 12).2.2.1 ∈ zT := zT_in 732 (by decide +kernel) (by decide +kernel)
theorem lkX8_40 : Cond.fieldLink RX8 40 (TX8 13).1 (TX8 13).2.1 (TX8 13).2.2.1 ∈ zT := zT_in 733 (by decide +kernel) (by decide +kernel)
theorem lkX8_43 : Cond.fieldLink RX8 43 (TX8 14).1 (TX8 14).2.1 (TX8 14).2.2.1 ∈ zT := zT_in 734 (by decide +kernel) (by decide +kernel)
theorem lkX8_46 : Cond.fieldLink RX8 46 (TX8 15).1 (TX8 15).2.1 (TX8 15).2.2.1 ∈ zT := zT_in 735 (by decide +kernel) (by decide +kernel)
theorem lkX8_49 : Cond.fieldLink RX8 49 (TX8 16).1 (TX8 16).2.1 (TX8 16).2.2.1 ∈ zT := zT_in 736 (by decide +kernel) (by decide +kernel)
theorem lkX8_52 : Cond.fieldLink RX8 52 (TX8 17).1 (TX8 17).2.1 (TX8 17).2.2.1 ∈ zT := zT_in 737 (by decide +kernel) (by decide +kernel)
theorem lkX8_55 : Cond.fieldLink RX8 55 (TX8 18).1 (TX8 18).2.1 (TX8 18).2.2.1 ∈ zT := zT_in 738 (by decide +kernel) (by decide +kernel)
theorem lkX8_58 : Cond.fieldLink RX8 58 (TX8 19).1 (TX8 19).2.1 (TX8 19).2.2.1 ∈ zT := zT_in 739 (by decide +kernel) (by decide +kernel)
theorem lkX8_61 : Cond.fieldLink RX8 61 (TX8 20).1 (TX8 20).2.1 (TX8 20).2.2.1 ∈ zT := zT_in 740 (by decide +kernel) (by decide +kernel)
theorem lkX8_64 : Cond.fieldLink RX8 64 (TX8 21).1 (TX8 21).2.1 (TX8 21).2.2.1 ∈ zT := zT_in 741 (by decide +kernel) (by decide +kernel)
theorem lkX8_67 : Cond.fieldLink RX8 67 (TX8 22).1 (TX8 22).2.1 (TX8 22).2.2.1 ∈ zT := zT_in 742 (by decide +kernel) (by decide +kernel)
theorem lkX8_70 : Cond.fieldLink RX8 70 (TX8 24).1 (TX8 24).2.1 (TX8 24).2.2.1 ∈ zT := zT_in 744 (by decide +kernel) (by decide +kernel)
theorem lkX8_73 : Cond.fieldLink RX8 73 (TX8 25).1 (TX8 25).2.1 (TX8 25).2.2.1 ∈ zT := zT_in 745 (by decide +kernel) (by decide +kernel)
theorem lkX8_76 : Cond.fieldLink RX8 76 (TX8 26).1 (TX8 26).2.1 (TX8 26).2.2.1 ∈ zT := zT_in 746 (by decide +kernel) (by decide +kernel)
theorem lkX8_79 : Cond.fieldLink RX8 79 (TX8 27).1 (TX8 27).2.1 (TX8 27).2.2.1 ∈ zT := zT_in 747 (by decide +kernel) (by decide +kernel)
theorem lkX8_82 : Cond.fieldLink RX8 82 (TX8 28).1 (TX8 28).2.1 (TX8 28).2.2.1 ∈ zT := zT_in 748 (by decide +kernel) (by decide +kernel)
theorem lkX8_85 : Cond.fieldLink RX8 85 (TX8 29).1 (TX8 29).2.1 (TX8 29).2.2.1 ∈ zT := zT_in 749 (by decide +kernel) (by decide +kernel)
theorem lkX8_88 : Cond.fieldLink RX8 88 (TX8 30).1 (TX8 30).2.1 (TX8 30).2.2.1 ∈ zT := zT_in 750 (by decide +kernel) (by decide +kernel)
theorem lkX8_91 : Cond.fieldLink RX8 91 (TX8 31).1 (TX8 31).2.1 (TX8 31).2.2.1 ∈ zT := zT_in 751 (by decide +kernel) (by decide +kernel)
theorem lkX8_94 : Cond.fieldLink RX8 94 (TX8 32).1 (TX8 32).2.1 (TX8 32).2.2.1 ∈ zT := zT_in 752 (by decide +kernel) (by decide +kernel)
theorem lkX8_97 : Cond.fieldLink RX8 97 (TX8 33).1 (TX8 33).2.1 (TX8 33).2.2.1 ∈ zT := zT_in 753 (by decide +kernel) (by decide +kernel)
theorem lkX8_100 : Cond.fieldLink RX8 100 (TX8 34).1 (TX8 34).2.1 (TX8 34).2.2.1 ∈ zT := zT_in 754 (by decide +kernel) (by decide +kernel)
theorem lkX8_103 : Cond.fieldLink RX8 103 (TX8 35).1 (TX8 35).2.1 (TX8 35).2.2.1 ∈ zT := zT_in 755 (by decide +kernel) (by decide +kernel)
theorem lkX8_106 : Cond.fieldLink RX8 106 (TX8 36).1 (TX8 36).2.1 (TX8 36).2.2.1 ∈ zT := zT_in 756 (by decide +kernel) (by decide +kernel)
theorem lkX8_109 : Cond.fieldLink RX8 109 (TX8 41).1 (TX8 41).2.1 (TX8 41).2.2.1 ∈ zT := zT_in 761 (by decide +kernel) (by decide +kernel)
theorem lkX8_116 : Cond.fieldLink RX8 116 (TX8 1).1 (TX8 1).2.1 (TX8 1).2.2.1 ∈ zT := zT_in 721 (by decide +kernel) (by decide +kernel)
theorem lkX8_137 : Cond.fieldLink RX8 137 (TX8 5).1 (TX8 5).2.1 (TX8 5).2.2.1 ∈ zT := zT_in 725 (by decide +kernel) (by decide +kernel)
theorem lkX8_150 : Cond.fieldLink RX8 150 (TX8 11).1 (TX8 11).2.1 (TX8 11).2.2.1 ∈ zT := zT_in 731 (by decide +kernel) (by decide +kernel)
theorem lkX8_153 : Cond.fieldLink RX8 153 (TX8 6).1 (TX8 6).2.1 (TX8 6).2.2.1 ∈ zT := zT_in 726 (by decide +kernel) (by decide +kernel)
theorem lkX8_174 : Cond.fieldLink RX8 174 (TX8 23).1 (TX8 23).2.1 (TX8 23).2.2.1 ∈ zT := zT_in 743 (by decide +kernel) (by decide +kernel)
theorem lkX8_191 : Cond.fieldLink RX8 191 (TX8 37).1 (TX8 37).2.1 (TX8 37).2.2.1 ∈ zT := zT_in 757 (by decide +kernel) (by decide +kernel)
theorem lkX8_194 : Cond.fieldLink RX8 194 (TX8 38).1 (TX8 38).2.1 (TX8 38).2.2.1 ∈ zT := zT_in 758 (by decide +kernel) (by decide +kernel)
theorem lkX8_200 : Cond.fieldLink RX8 200 (TX8 39).1 (TX8 39).2.1 (TX8 39).2.2.1 ∈ zT := zT_in 759 (by decide +kernel) (by decide +kernel)
theorem lkX8_203 : Cond.fieldLink RX8 203 (TX8 40).1 (TX8 40).2.1 (TX8 40).2.2.1 ∈ zT := zT_in 760 (by decide +kernel) (by decide +kernel)
theorem mlX7_1 : Cond.methodLink RX7 1 objectInit ∈ zT := zT_in 64 (by decide +kernel) (by decide +kernel)
theorem mlX7_69 : Cond.methodLink RX7 69 yX5_append ∈ zT := zT_in 201 (by decide +kernel) (by decide +kernel)
theorem mlX7_73 : Cond.methodLink RX7 73 yX0_read ∈ zT := zT_in 209 (by decide +kernel) (by decide +kernel)
theorem mlX7_77 : Cond.methodLink RX7 77 yX7_isIsland ∈ zT := zT_in 301 (by decide +kernel) (by decide +kernel)
theorem mlX7_81 : Cond.methodLink RX7 81 yX3_init ∈ zT := zT_in 306 (by decide +kernel) (by decide +kernel)
theorem mlX7_83 : Cond.methodLink RX7 83 yX7_livingMan ∈ zT := zT_in 331 (by decide +kernel) (by decide +kernel)
theorem mlX7_87 : Cond.methodLink RX7 87 yX3_isPartnerOf ∈ zT := zT_in 339 (by decide +kernel) (by decide +kernel)
theorem mlX7_93 : Cond.methodLink RX7 93 yX7_stepsBetween ∈ zT := zT_in 343 (by decide +kernel) (by decide +kernel)
theorem mlX7_97 : Cond.methodLink RX7 97 yX3_addPartner ∈ zT := zT_in 353 (by decide +kernel) (by decide +kernel)
theorem mlX7_100 : Cond.methodLink RX7 100 yX6_init ∈ zT := zT_in 362 (by decide +kernel) (by decide +kernel)
theorem mlX7_103 : Cond.methodLink RX7 103 yX6_comeTo ∈ zT := zT_in 409 (by decide +kernel) (by decide +kernel)
theorem mlX7_106 : Cond.methodLink RX7 106 yX7_anyMan ∈ zT := zT_in 335 (by decide +kernel) (by decide +kernel)
theorem mlX7_113 : Cond.methodLink RX7 113 yJ9_abs_0f7a4 ∈ zT := zT_in 347 (by decide +kernel) (by decide +kernel)
theorem mlX7_119 : Cond.methodLink RX7 119 yJ9_min_7cf53 ∈ zT := zT_in 350 (by decide +kernel) (by decide +kernel)
theorem mlX7_122 : Cond.methodLink RX7 122 yX7_anyTreasure ∈ zT := zT_in 417 (by decide +kernel) (by decide +kernel)
theorem mlX7_126 : Cond.methodLink RX7 126 yX6_isHeldBy ∈ zT := zT_in 421 (by decide +kernel) (by decide +kernel)
theorem mlX7_129 : Cond.methodLink RX7 129 yX6_canBeGivenIn ∈ zT := zT_in 425 (by decide +kernel) (by decide +kernel)
theorem mlX7_135 : Cond.methodLink RX7 135 yX7_isOnWay ∈ zT := zT_in 429 (by decide +kernel) (by decide +kernel)
theorem mlX7_139 : Cond.methodLink RX7 139 yX7_settle ∈ zT := zT_in 433 (by decide +kernel) (by decide +kernel)
theorem mlX7_152 : Cond.methodLink RX7 152 yX2_greatestWithin ∈ zT := zT_in 437 (by decide +kernel) (by decide +kernel)
theorem mlX7_161 : Cond.methodLink RX7 161 yX2_haveQuarrel ∈ zT := zT_in 452 (by decide +kernel) (by decide +kernel)
theorem mlX7_164 : Cond.methodLink RX7 164 yX2_firstOpen ∈ zT := zT_in 461 (by decide +kernel) (by decide +kernel)
theorem mlX7_168 : Cond.methodLink RX7 168 yX0_seasonsWon ∈ zT := zT_in 465 (by decide +kernel) (by decide +kernel)
theorem mlX7_172 : Cond.methodLink RX7 172 yX1_winTime ∈ zT := zT_in 469 (by decide +kernel) (by decide +kernel)
theorem mlX7_175 : Cond.methodLink RX7 175 yX2_isFull ∈ zT := zT_in 473 (by decide +kernel) (by decide +kernel)
theorem mlX7_179 : Cond.methodLink RX7 179 yX1_init ∈ zT := zT_in 479 (by decide +kernel) (by decide +kernel)
theorem mlX7_182 : Cond.methodLink RX7 182 yX0_needFor ∈ zT := zT_in 521 (by decide +kernel) (by decide +kernel)
theorem mlX7_188 : Cond.methodLink RX7 188 yX0_seasonsTillDue ∈ zT := zT_in 525 (by decide +kernel) (by decide +kernel)
theorem mlX7_194 : Cond.methodLink RX7 194 yX2_append ∈ zT := zT_in 529 (by decide +kernel) (by decide +kernel)
theorem mlX7_206 : Cond.methodLink RX7 206 yX0_seasonsToHold ∈ zT := zT_in 538 (by decide +kernel) (by decide +kernel)
theorem mlX7_209 : Cond.methodLink RX7 209 yX7_passTreasures ∈ zT := zT_in 546 (by decide +kernel) (by decide +kernel)
theorem mlX7_212 : Cond.methodLink RX7 212 yX2_pass ∈ zT := zT_in 550 (by decide +kernel) (by decide +kernel)
theorem mlX7_215 : Cond.methodLink RX7 215 yX7_passPartners ∈ zT := zT_in 554 (by decide +kernel) (by decide +kernel)
theorem mlX7_218 : Cond.methodLink RX7 218 yX3_dropPartner ∈ zT := zT_in 558 (by decide +kernel) (by decide +kernel)
theorem mlX7_224 : Cond.methodLink RX7 224 yX7_hasCome ∈ zT := zT_in 570 (by decide +kernel) (by decide +kernel)
theorem mlX7_236 : Cond.methodLink RX7 236 yX6_holdersKept ∈ zT := zT_in 578 (by decide +kernel) (by decide +kernel)
theorem mlX7_239 : Cond.methodLink RX7 239 yX4_clear ∈ zT := zT_in 587 (by decide +kernel) (by decide +kernel)
theorem mlX7_242 : Cond.methodLink RX7 242 yX4_addTreasure ∈ zT := zT_in 591 (by decide +kernel) (by decide +kernel)
theorem mlX7_251 : Cond.methodLink RX7 251 yX1_isOpen ∈ zT := zT_in 595 (by decide +kernel) (by decide +kernel)
theorem mlX7_257 : Cond.methodLink RX7 257 yX4_addDebt ∈ zT := zT_in 596 (by decide +kernel) (by decide +kernel)
theorem mlX7_260 : Cond.methodLink RX7 260 yX4_solve ∈ zT := zT_in 600 (by decide +kernel) (by decide +kernel)
theorem mlX7_269 : Cond.methodLink RX7 269 yX7_measureGiftsTo ∈ zT := zT_in 638 (by decide +kernel) (by decide +kernel)
theorem mlX7_272 : Cond.methodLink RX7 272 yX7_soonest ∈ zT := zT_in 651 (by decide +kernel) (by decide +kernel)
theorem mlX7_275 : Cond.methodLink RX7 275 yX7_nextOnWay ∈ zT := zT_in 652 (by decide +kernel) (by decide +kernel)
theorem mlX7_278 : Cond.methodLink RX7 278 yJ7_fill_53178 ∈ zT := zT_in 642 (by decide +kernel) (by decide +kernel)
theorem mlX7_284 : Cond.methodLink RX7 284 yX7_firstAt ∈ zT := zT_in 643 (by decide +kernel) (by decide +kernel)
theorem mlX7_288 : Cond.methodLink RX7 288 yX7_treasuresHeldBy ∈ zT := zT_in 660 (by decide +kernel) (by decide +kernel)
theorem mlX7_291 : Cond.methodLink RX7 291 yX2_openOnes ∈ zT := zT_in 664 (by decide +kernel) (by decide +kernel)
theorem mlX7_294 : Cond.methodLink RX7 294 yX2_lateOnesOf ∈ zT := zT_in 668 (by decide +kernel) (by decide +kernel)
theorem mlX7_300 : Cond.methodLink RX7 300 yJ6_bitCount_0f7a4 ∈ zT := zT_in 672 (by decide +kernel) (by decide +kernel)
theorem mlX7_309 : Cond.methodLink RX7 309 yX1_stateIn ∈ zT := zT_in 686 (by decide +kernel) (by decide +kernel)
theorem mlX7_315 : Cond.methodLink RX7 315 yX7_livingMen ∈ zT := zT_in 699 (by decide +kernel) (by decide +kernel)
theorem mlX7_318 : Cond.methodLink RX7 318 yX7_lostTreasures ∈ zT := zT_in 703 (by decide +kernel) (by decide +kernel)
theorem mlX7_321 : Cond.methodLink RX7 321 yX0_term ∈ zT := zT_in 707 (by decide +kernel) (by decide +kernel)
theorem mlX0_3 : Cond.methodLink RX0 3 objectInit ∈ zT := zT_in 87 (by decide +kernel) (by decide +kernel)
theorem mlX0_32 : Cond.methodLink RX0 32 yX0_digitsFrom ∈ zT := zT_in 216 (by decide +kernel) (by decide +kernel)
theorem mlX0_36 : Cond.methodLink RX0 36 yX0_readClause ∈ zT := zT_in 226 (by decide +kernel) (by decide +kernel)
theorem mlX0_40 : Cond.methodLink RX0 40 yX5_byteAt ∈ zT := zT_in 219 (by decide +kernel) (by decide +kernel)
theorem mlX0_46 : Cond.methodLink RX0 46 yX0_termOf ∈ zT := zT_in 230 (by decide +kernel) (by decide +kernel)
theorem mlX0_50 : Cond.methodLink RX0 50 yX0_faultAt ∈ zT := zT_in 282 (by decide +kernel) (by decide +kernel)
theorem mlX0_53 : Cond.methodLink RX0 53 yX0_numberAt ∈ zT := zT_in 285 (by decide +kernel) (by decide +kernel)
theorem mlX0_64 : Cond.methodLink RX0 64 yJ0_length_8abf5 ∈ zT := zT_in 234 (by decide +kernel) (by decide +kernel)
theorem mlX0_70 : Cond.methodLink RX0 70 yJ0_charAt_5068e ∈ zT := zT_in 244 (by decide +kernel) (by decide +kernel)
theorem mlX0_74 : Cond.methodLink RX0 74 yX0_isDigit ∈ zT := zT_in 223 (by decide +kernel) (by decide +kernel)
theorem mlX1_3 : Cond.methodLink RX1 3 objectInit ∈ zT := zT_in 482 (by decide +kernel) (by decide +kernel)
theorem mlX1_37 : Cond.methodLink RX1 37 yX1_isOpen ∈ zT := zT_in 460 (by decide +kernel) (by decide +kernel)
theorem mlX1_41 : Cond.methodLink RX1 41 yX1_isLateIn ∈ zT := zT_in 690 (by decide +kernel) (by decide +kernel)
theorem mlX2_3 : Cond.methodLink RX2 3 objectInit ∈ zT := zT_in 113 (by decide +kernel) (by decide +kernel)
theorem mlX2_21 : Cond.methodLink RX2 21 yX2_isFull ∈ zT := zT_in 533 (by decide +kernel) (by decide +kernel)
theorem mlX2_25 : Cond.methodLink RX2 25 yX2_isOpenFor ∈ zT := zT_in 441 (by decide +kernel) (by decide +kernel)
theorem mlX2_32 : Cond.methodLink RX2 32 yX1_isOpen ∈ zT := zT_in 444 (by decide +kernel) (by decide +kernel)
theorem mlX2_38 : Cond.methodLink RX2 38 yX1_isBetween ∈ zT := zT_in 448 (by decide +kernel) (by decide +kernel)
theorem mlX2_42 : Cond.methodLink RX2 42 yX1_isLateIn ∈ zT := zT_in 456 (by decide +kernel) (by decide +kernel)
theorem mlX3_1 : Cond.methodLink RX3 1 objectInit ∈ zT := zT_in 309 (by decide +kernel) (by decide +kernel)
theorem mlX4_3 : Cond.methodLink RX4 3 objectInit ∈ zT := zT_in 130 (by decide +kernel) (by decide +kernel)
theorem mlX4_56 : Cond.methodLink RX4 56 yX4_weighAll ∈ zT := zT_in 604 (by decide +kernel) (by decide +kernel)
theorem mlX4_59 : Cond.methodLink RX4 59 yX4_choiceFor ∈ zT := zT_in 626 (by decide +kernel) (by decide +kernel)
theorem mlX4_63 : Cond.methodLink RX4 63 yJ7_fill_53178 ∈ zT := zT_in 608 (by decide +kernel) (by decide +kernel)
theorem mlX4_69 : Cond.methodLink RX4 69 yX4_weigh ∈ zT := zT_in 611 (by decide +kernel) (by decide +kernel)
theorem mlX4_72 : Cond.methodLink RX4 72 yX4_canClose ∈ zT := zT_in 615 (by decide +kernel) (by decide +kernel)
theorem mlX4_76 : Cond.methodLink RX4 76 yX4_weightWith ∈ zT := zT_in 619 (by decide +kernel) (by decide +kernel)
theorem mlX4_80 : Cond.methodLink RX4 80 yJ9_max_7cf53 ∈ zT := zT_in 623 (by decide +kernel) (by decide +kernel)
theorem mlX5_3 : Cond.methodLink RX5 3 objectInit ∈ zT := zT_in 72 (by decide +kernel) (by decide +kernel)
theorem mlX6_3 : Cond.methodLink RX6 3 objectInit ∈ zT := zT_in 365 (by decide +kernel) (by decide +kernel)
theorem mlX6_44 : Cond.methodLink RX6 44 yJ9_min_7cf53 ∈ zT := zT_in 582 (by decide +kernel) (by decide +kernel)
theorem mlL_9 : Cond.methodLink RL 9 yX7_init ∈ zT := zT_in 61 (by decide +kernel) (by decide +kernel)
theorem mlL_12 : Cond.methodLink RL 12 yX8_init ∈ zT := zT_in 713 (by decide +kernel) (by decide +kernel)
theorem mlL_13 : Cond.methodLink RL 13 yX7_feed ∈ zT := zT_in 197 (by decide +kernel) (by decide +kernel)
theorem mlL_17 : Cond.methodLink RL 17 yX8_feed ∈ zT := zT_in 848 (by decide +kernel) (by decide +kernel)
theorem mlL_18 : Cond.methodLink RL 18 yX7_custom ∈ zT := zT_in 205 (by decide +kernel) (by decide +kernel)
theorem mlL_22 : Cond.methodLink RL 22 yX8_custom ∈ zT := zT_in 856 (by decide +kernel) (by decide +kernel)
theorem mlL_23 : Cond.methodLink RL 23 yX7_islands ∈ zT := zT_in 293 (by decide +kernel) (by decide +kernel)
theorem mlL_27 : Cond.methodLink RL 27 yX8_islands ∈ zT := zT_in 874 (by decide +kernel) (by decide +kernel)
theorem mlL_28 : Cond.methodLink RL 28 yX7_man ∈ zT := zT_in 297 (by decide +kernel) (by decide +kernel)
theorem mlL_31 : Cond.methodLink RL 31 yX8_man ∈ zT := zT_in 878 (by decide +kernel) (by decide +kernel)
theorem mlL_32 : Cond.methodLink RL 32 yX7_partners ∈ zT := zT_in 327 (by decide +kernel) (by decide +kernel)
theorem mlL_36 : Cond.methodLink RL 36 yX8_partners ∈ zT := zT_in 882 (by decide +kernel) (by decide +kernel)
theorem mlL_37 : Cond.methodLink RL 37 yX7_treasure ∈ zT := zT_in 357 (by decide +kernel) (by decide +kernel)
theorem mlL_41 : Cond.methodLink RL 41 yX8_treasure ∈ zT := zT_in 898 (by decide +kernel) (by decide +kernel)
theorem mlL_42 : Cond.methodLink RL 42 yX7_give ∈ zT := zT_in 413 (by decide +kernel) (by decide +kernel)
theorem mlL_45 : Cond.methodLink RL 45 yX8_give ∈ zT := zT_in 926 (by decide +kernel) (by decide +kernel)
theorem mlL_46 : Cond.methodLink RL 46 yX7_season ∈ zT := zT_in 534 (by decide +kernel) (by decide +kernel)
theorem mlL_50 : Cond.methodLink RL 50 yX8_season ∈ zT := zT_in 950 (by decide +kernel) (by decide +kernel)
theorem mlL_51 : Cond.methodLink RL 51 yX7_dies ∈ zT := zT_in 542 (by decide +kernel) (by decide +kernel)
theorem mlL_54 : Cond.methodLink RL 54 yX8_dies ∈ zT := zT_in 954 (by decide +kernel) (by decide +kernel)
theorem mlL_55 : Cond.methodLink RL 55 yX7_lost ∈ zT := zT_in 562 (by decide +kernel) (by decide +kernel)
theorem mlL_58 : Cond.methodLink RL 58 yX8_lost ∈ zT := zT_in 958 (by decide +kernel) (by decide +kernel)
theorem mlL_59 : Cond.methodLink RL 59 yX7_known ∈ zT := zT_in 566 (by decide +kernel) (by decide +kernel)
theorem mlL_63 : Cond.methodLink RL 63 yX8_known ∈ zT := zT_in 910 (by decide +kernel) (by decide +kernel)
theorem mlL_64 : Cond.methodLink RL 64 yX7_way ∈ zT := zT_in 574 (by decide +kernel) (by decide +kernel)
theorem mlL_67 : Cond.methodLink RL 67 yX8_way ∈ zT := zT_in 922 (by decide +kernel) (by decide +kernel)
theorem mlL_68 : Cond.methodLink RL 68 yX7_closings ∈ zT := zT_in 583 (by decide +kernel) (by decide +kernel)
theorem mlL_71 : Cond.methodLink RL 71 yX8_closings ∈ zT := zT_in 962 (by decide +kernel) (by decide +kernel)
theorem mlL_72 : Cond.methodLink RL 72 yX7_closing ∈ zT := zT_in 630 (by decide +kernel) (by decide +kernel)
theorem mlL_75 : Cond.methodLink RL 75 yX8_closing ∈ zT := zT_in 978 (by decide +kernel) (by decide +kernel)
theorem mlL_76 : Cond.methodLink RL 76 yX7_soonest ∈ zT := zT_in 634 (by decide +kernel) (by decide +kernel)
theorem mlL_79 : Cond.methodLink RL 79 yX8_soonest ∈ zT := zT_in 982 (by decide +kernel) (by decide +kernel)
theorem mlL_80 : Cond.methodLink RL 80 yX7_through ∈ zT := zT_in 647 (by decide +kernel) (by decide +kernel)
theorem mlL_83 : Cond.methodLink RL 83 yX8_through ∈ zT := zT_in 990 (by decide +kernel) (by decide +kernel)
theorem mlL_84 : Cond.methodLink RL 84 yX7_look ∈ zT := zT_in 656 (by decide +kernel) (by decide +kernel)
theorem mlL_87 : Cond.methodLink RL 87 yX8_look ∈ zT := zT_in 995 (by decide +kernel) (by decide +kernel)
theorem mlL_88 : Cond.methodLink RL 88 yX7_told ∈ zT := zT_in 678 (by decide +kernel) (by decide +kernel)
theorem mlL_91 : Cond.methodLink RL 91 yX8_told ∈ zT := zT_in 999 (by decide +kernel) (by decide +kernel)
theorem mlL_92 : Cond.methodLink RL 92 yX7_debt ∈ zT := zT_in 682 (by decide +kernel) (by decide +kernel)
theorem mlL_95 : Cond.methodLink RL 95 yX8_debt ∈ zT := zT_in 1003 (by decide +kernel) (by decide +kernel)
theorem mlL_96 : Cond.methodLink RL 96 yX7_quarrel ∈ zT := zT_in 691 (by decide +kernel) (by decide +kernel)
theorem mlL_99 : Cond.methodLink RL 99 yX8_quarrel ∈ zT := zT_in 1007 (by decide +kernel) (by decide +kernel)
theorem mlL_100 : Cond.methodLink RL 100 yX7_count ∈ zT := zT_in 695 (by decide +kernel) (by decide +kernel)
theorem mlL_103 : Cond.methodLink RL 103 yX8_count ∈ zT := zT_in 1011 (by decide +kernel) (by decide +kernel)
theorem mlX8_1 : Cond.methodLink RX8 1 objectInit ∈ zT := zT_in 716 (by decide +kernel) (by decide +kernel)
theorem mlX8_112 : Cond.methodLink RX8 112 yX8_begins ∈ zT := zT_in 717 (by decide +kernel) (by decide +kernel)
theorem mlX8_119 : Cond.methodLink RX8 119 yX8_types ∈ zT := zT_in 852 (by decide +kernel) (by decide +kernel)
theorem mlX8_123 : Cond.methodLink RX8 123 yX8_letterOf ∈ zT := zT_in 864 (by decide +kernel) (by decide +kernel)
theorem mlX8_127 : Cond.methodLink RX8 127 yX8_isDigit ∈ zT := zT_in 867 (by decide +kernel) (by decide +kernel)
theorem mlX8_131 : Cond.methodLink RX8 131 yX8_canBe ∈ zT := zT_in 871 (by decide +kernel) (by decide +kernel)
theorem mlX8_134 : Cond.methodLink RX8 134 yX8_parse ∈ zT := zT_in 860 (by decide +kernel) (by decide +kernel)
theorem mlX8_140 : Cond.methodLink RX8 140 yX8_isMan ∈ zT := zT_in 890 (by decide +kernel) (by decide +kernel)
theorem mlX8_144 : Cond.methodLink RX8 144 yX8_lives ∈ zT := zT_in 886 (by decide +kernel) (by decide +kernel)
theorem mlX8_147 : Cond.methodLink RX8 147 yX8_nextOf ∈ zT := zT_in 894 (by decide +kernel) (by decide +kernel)
theorem mlX8_156 : Cond.methodLink RX8 156 yX8_tellsNews ∈ zT := zT_in 906 (by decide +kernel) (by decide +kernel)
theorem mlX8_160 : Cond.methodLink RX8 160 yX8_comesTo ∈ zT := zT_in 902 (by decide +kernel) (by decide +kernel)
theorem mlX8_164 : Cond.methodLink RX8 164 yX8_isTreasure ∈ zT := zT_in 914 (by decide +kernel) (by decide +kernel)
theorem mlX8_167 : Cond.methodLink RX8 167 yX8_apart ∈ zT := zT_in 918 (by decide +kernel) (by decide +kernel)
theorem mlX8_171 : Cond.methodLink RX8 171 yX8_isOpen ∈ zT := zT_in 938 (by decide +kernel) (by decide +kernel)
theorem mlX8_177 : Cond.methodLink RX8 177 yX8_isLate ∈ zT := zT_in 946 (by decide +kernel) (by decide +kernel)
theorem mlX8_180 : Cond.methodLink RX8 180 yX8_goesRound ∈ zT := zT_in 930 (by decide +kernel) (by decide +kernel)
theorem mlX8_184 : Cond.methodLink RX8 184 yX8_isOther ∈ zT := zT_in 934 (by decide +kernel) (by decide +kernel)
theorem mlX8_188 : Cond.methodLink RX8 188 yX8_quarrels ∈ zT := zT_in 942 (by decide +kernel) (by decide +kernel)
theorem mlX8_197 : Cond.methodLink RX8 197 yX8_finds ∈ zT := zT_in 966 (by decide +kernel) (by decide +kernel)
theorem mlX8_206 : Cond.methodLink RX8 206 yX8_isLess ∈ zT := zT_in 970 (by decide +kernel) (by decide +kernel)
theorem mlX8_210 : Cond.methodLink RX8 210 yX8_canBeAll ∈ zT := zT_in 974 (by decide +kernel) (by decide +kernel)
theorem mlX8_213 : Cond.methodLink RX8 213 yX8_fars ∈ zT := zT_in 986 (by decide +kernel) (by decide +kernel)
theorem mlX8_216 : Cond.methodLink RX8 216 yX8_soonest ∈ zT := zT_in 994 (by decide +kernel) (by decide +kernel)
theorem mlJ0_335 : Cond.methodLink RJ0 335 yJ0_coder_7d493 ∈ zT := zT_in 238 (by decide +kernel) (by decide +kernel)
theorem mlJ0_492 : Cond.methodLink RJ0 492 yJ0_isLatin1_aae02 ∈ zT := zT_in 248 (by decide +kernel) (by decide +kernel)
theorem mlJ0_495 : Cond.methodLink RJ0 495 yJ1_charAt_3b067 ∈ zT := zT_in 252 (by decide +kernel) (by decide +kernel)
theorem mlJ0_498 : Cond.methodLink RJ0 498 yJ2_charAt_3b067 ∈ zT := zT_in 263 (by decide +kernel) (by decide +kernel)
theorem mlJ0_1059 : Cond.methodLink RJ0 1059 yJ3_checkIndex_8e157 ∈ zT := zT_in 260 (by decide +kernel) (by decide +kernel)
theorem mlJ1_9 : Cond.methodLink RJ1 9 yJ0_checkIndex_df160 ∈ zT := zT_in 255 (by decide +kernel) (by decide +kernel)
theorem mlJ2_48 : Cond.methodLink RJ2 48 yJ2_length_9d52b ∈ zT := zT_in 269 (by decide +kernel) (by decide +kernel)
theorem mlJ2_67 : Cond.methodLink RJ2 67 yJ2_checkIndex_2214a ∈ zT := zT_in 266 (by decide +kernel) (by decide +kernel)
theorem mlJ2_71 : Cond.methodLink RJ2 71 yJ2_getChar_3b067 ∈ zT := zT_in 273 (by decide +kernel) (by decide +kernel)
theorem mlJ2_414 : Cond.methodLink RJ2 414 yJ0_checkIndex_df160 ∈ zT := zT_in 272 (by decide +kernel) (by decide +kernel)
theorem ckX0_init : zCk yX0_init cX0_init 1 none 0 := ⟨zT_in 86 (by decide +kernel) (by decide +kernel), zT_in 44 (by decide +kernel) (by decide +kernel), by decide +kernel⟩
theorem kiX0_init : Cond.instanceMethod yX0_init ∈ zT := zT_in 85 (by decide +kernel) (by decide +kernel)
theorem ckX0_term : zCk yX0_term cX0_term 2 (some .int) 1 := ⟨zT_in 710 (by decide +kernel) (by decide +kernel), zT_in 44 (by decide +kernel) (by decide +kernel), by decide +kernel⟩
theorem kiX0_term : Cond.instanceMethod yX0_term ∈ zT := zT_in 708 (by decide +kernel) (by decide +kernel)
theorem kvX0_term : Cond.instanceMethod yX0_term ∈ zT ∧ Cond.selects yX0_term.cls yX0_term yX0_term ∈ zT := ⟨kiX0_term, zT_in 709 (by decide +kernel) (by decide +kernel)⟩
theorem ckX0_needFor : zCk yX0_needFor cX0_needFor 2 (some .int) 1 := ⟨zT_in 524 (by decide +kernel) (by decide +kernel), zT_in 44 (by decide +kernel) (by decide +kernel), by decide +kernel⟩
theorem kiX0_needFor : Cond.instanceMethod yX0_needFor ∈ zT := zT_in 522 (by decide +kernel) (by decide +kernel)
theorem kvX0_needFor : Cond.instanceMethod yX0_needFor ∈ zT ∧ Cond.selects yX0_needFor.cls yX0_needFor yX0_needFor ∈ zT := ⟨kiX0_needFor, zT_in 523 (by decide +kernel) (by decide +kernel)⟩
theorem ckX0_seasonsTillDue : zCk yX0_seasonsTillDue cX0_seasonsTillDue 1 (some .int) 0 := ⟨zT_in 528 (by decide +kernel) (by decide +kernel), zT_in 44 (by decide +kernel) (by decide +kernel), by decide +kernel⟩
theorem kiX0_seasonsTillDue : Cond.instanceMethod yX0_seasonsTillDue ∈ zT := zT_in 526 (by decide +kernel) (by decide +kernel)
theorem kvX0_seasonsTillDue : Cond.instanceMethod yX0_seasonsTillDue ∈ zT ∧ Cond.selects yX0_seasonsTillDue.cls yX0_seasonsTillDue yX0_seasonsTillDue ∈ zT := ⟨kiX0_seasonsTillDue, zT_in 527 (by decide +kernel) (by decide +kernel)⟩
theorem ckX0_seasonsWon : zCk yX0_seasonsWon cX0_seasonsWon 1 (some .int) 0 := ⟨zT_in 468 (by decide +kernel) (by decide +kernel), zT_in 44 (by decide +kernel) (by decide +kernel), by decide +kernel⟩
theorem kiX0_seasonsWon : Cond.instanceMethod yX0_seasonsWon ∈ zT := zT_in 466 (by decide +kernel) (by decide +kernel)
theorem kvX0_seasonsWon : Cond.instanceMethod yX0_seasonsWon ∈ zT ∧ Cond.selects yX0_seasonsWon.cls yX0_seasonsWon yX0_seasonsWon ∈ zT := ⟨kiX0_seasonsWon, zT_in 467 (by decide +kernel) (by decide +kernel)⟩
theorem ckX0_seasonsToHold : zCk yX0_seasonsToHold cX0_seasonsToHold 1 (some .int) 0 := ⟨zT_in 541 (by decide +kernel) (by decide +kernel), zT_in 44 (by decide +kernel) (by decide +kernel), by decide +kernel⟩
theorem kiX0_seasonsToHold : Cond.instanceMethod yX0_seasonsToHold ∈ zT := zT_in 539 (by decide +kernel) (by decide +kernel)
theorem kvX0_seasonsToHold : Cond.instanceMethod yX0_seasonsToHold ∈ zT ∧ Cond.selects yX0_seasonsToHold.cls yX0_seasonsToHold yX0_seasonsToHold ∈ zT := ⟨kiX0_seasonsToHold, zT_in 540 (by decide +kernel) (by decide +kernel)⟩
theorem ckX0_read : zCk yX0_read cX0_read 6 (some .int) 2 := ⟨zT_in 212 (by decide +kernel) (by decide +kernel), zT_in 44 (by decide +kernel) (by decide +kernel), by decide +kernel⟩
theorem kiX0_read : Cond.instanceMethod yX0_read ∈ zT := zT_in 210 (by decide +kernel) (by decide +kernel)
theorem kvX0_read : Cond.instanceMethod yX0_read ∈ zT ∧ Cond.selects yX0_read.cls yX0_read yX0_read ∈ zT := ⟨kiX0_read, zT_in 211 (by decide +kernel) (by decide +kernel)⟩
theorem ckX0_readClause : zCk yX0_readClause cX0_readClause 8 (some .int) 4 := ⟨zT_in 229 (by decide +kernel) (by decide +kernel), zT_in 44 (by decide +kernel) (by decide +kernel), by decide +kernel⟩
theorem kiX0_readClause : Cond.instanceMethod yX0_readClause ∈ zT := zT_in 228 (by decide +kernel) (by decide +kernel)
theorem kvX0_readClause : Cond.instanceMethod yX0_readClause ∈ zT ∧ Cond.selects yX0_readClause.cls yX0_readClause yX0_readClause ∈ zT := ⟨kiX0_readClause, zT_in 0 (by decide +kernel) (by decide +kernel)⟩
theorem ckX0_faultAt : zCk yX0_faultAt cX0_faultAt 2 (some .int) 2 := ⟨zT_in 284 (by decide +kernel) (by decide +kernel), zT_in 44 (by decide +kernel) (by decide +kernel), by decide +kernel⟩
theorem ksX0_faultAt : Cond.static yX0_faultAt ∈ zT := zT_in 283 (by decide +kernel) (by decide +kernel)
theorem ckX0_termOf : zCk yX0_termOf cX0_termOf 2 (some .int) 1 := ⟨zT_in 232 (by decide +kernel) (by decide +kernel), zT_in 44 (by decide +kernel) (by decide +kernel), by decide +kernel⟩
theorem ksX0_termOf : Cond.static yX0_termOf ∈ zT := zT_in 231 (by decide +kernel) (by decide +kernel)
theorem ckX0_digitsFrom : zCk yX0_digitsFrom cX0_digitsFrom 4 (some .int) 3 := ⟨zT_in 218 (by decide +kernel) (by decide +kernel), zT_in 44 (by decide +kernel) (by decide +kernel), by decide +kernel⟩
theorem ksX0_digitsFrom : Cond.static yX0_digitsFrom ∈ zT := zT_in 217 (by decide +kernel) (by decide +kernel)
theorem ckX0_isDigit : zCk yX0_isDigit cX0_isDigit 1 (some .boolean) 1 := ⟨zT_in 225 (by decide +kernel) (by decide +kernel), zT_in 44 (by decide +kernel) (by decide +kernel), by decide +kernel⟩
theorem ksX0_isDigit : Cond.static yX0_isDigit ∈ zT := zT_in 224 (by decide +kernel) (by decide +kernel)
theorem ckX0_numberAt : zCk yX0_numberAt cX0_numberAt 6 (some .int) 4 := ⟨zT_in 287 (by decide +kernel) (by decide +kernel), zT_in 44 (by decide +kernel) (by decide +kernel), by decide +kernel⟩
theorem ksX0_numberAt : Cond.static yX0_numberAt ∈ zT := zT_in 286 (by decide +kernel) (by decide +kernel)
theorem ckX1_init : zCk yX1_init cX1_init 5 none 4 := ⟨zT_in 481 (by decide +kernel) (by decide +kernel), zT_in 56 (by decide +kernel) (by decide +kernel), by decide +kernel⟩
theorem kiX1_init : Cond.instanceMethod yX1_init ∈ zT := zT_in 480 (by decide +kernel) (by decide +kernel)
theorem ckX1_isOpen : zCk yX1_isOpen cX1_isOpen 1 (some .boolean) 0 := ⟨zT_in 447 (by decide +kernel) (by decide +kernel), zT_in 56 (by decide +kernel) (by decide +kernel), by decide +kernel⟩
theorem kiX1_isOpen : Cond.instanceMethod yX1_isOpen ∈ zT := zT_in 445 (by decide +kernel) (by decide +kernel)
theorem kvX1_isOpen : Cond.instanceMethod yX1_isOpen ∈ zT ∧ Cond.selects yX1_isOpen.cls yX1_isOpen yX1_isOpen ∈ zT := ⟨kiX1_isOpen, zT_in 446 (by decide +kernel) (by decide +kernel)⟩
theorem ckX1_isLateIn : zCk yX1_isLateIn cX1_isLateIn 2 (some .boolean) 1 := ⟨zT_in 459 (by decide +kernel) (by decide +kernel), zT_in 56 (by decide +kernel) (by decide +kernel), by decide +kernel⟩
theorem kiX1_isLateIn : Cond.instanceMethod yX1_isLateIn ∈ zT := zT_in 457 (by decide +kernel) (by decide +kernel)
theorem kvX1_isLateIn : Cond.instanceMethod yX1_isLateIn ∈ zT ∧ Cond.selects yX1_isLateIn.cls yX1_isLateIn yX1_isLateIn ∈ zT := ⟨kiX1_isLateIn, zT_in 458 (by decide +kernel) (by decide +kernel)⟩
theorem ckX1_stateIn : zCk yX1_stateIn cX1_stateIn 2 (some .int) 1 := ⟨zT_in 689 (by decide +kernel) (by decide +kernel), zT_in 56 (by decide +kernel) (by decide +kernel), by decide +kernel⟩
theorem kiX1_stateIn : Cond.instanceMethod yX1_stateIn ∈ zT := zT_in 687 (by decide +kernel) (by decide +kernel)
theorem kvX1_stateIn : Cond.instanceMethod yX1_stateIn ∈ zT ∧ Cond.selects yX1_stateIn.cls yX1_stateIn yX1_stateIn ∈ zT := ⟨kiX1_stateIn, zT_in 688 (by decide +kernel) (by decide +kernel)⟩
theorem ckX1_isBetween : zCk yX1_isBetween cX1_isBetween 3 (some .boolean) 2 := ⟨zT_in 451 (by decide +kernel) (by decide +kernel), zT_in 56 (by decide +kernel) (by decide +kernel), by decide +kernel⟩
theorem kiX1_isBetween : Cond.instanceMethod yX1_isBetween ∈ zT := zT_in 449 (by decide +kernel) (by decide +kernel)
theorem kvX1_isBetween : Cond.instanceMethod yX1_isBetween ∈ zT ∧ Cond.selects yX1_isBetween.cls yX1_isBetween yX1_isBetween ∈ zT := ⟨kiX1_isBetween, zT_in 450 (by decide +kernel) (by decide +kernel)⟩
theorem ckX1_winTime : zCk yX1_winTime cX1_winTime 2 none 1 := ⟨zT_in 472 (by decide +kernel) (by decide +kernel), zT_in 56 (by decide +kernel) (by decide +kernel), by decide +kernel⟩
theorem kiX1_winTime : Cond.instanceMethod yX1_winTime ∈ zT := zT_in 470 (by decide +kernel) (by decide +kernel)
theorem kvX1_winTime : Cond.instanceMethod yX1_winTime ∈ zT ∧ Cond.selects yX1_winTime.cls yX1_winTime yX1_winTime ∈ zT := ⟨kiX1_winTime, zT_in 471 (by decide +kernel) (by decide +kernel)⟩
theorem ckX2_init : zCk yX2_init cX2_init 1 none 0 := ⟨zT_in 112 (by decide +kernel) (by decide +kernel), zT_in 45 (by decide +kernel) (by decide +kernel), by decide +kernel⟩
theorem kiX2_init : Cond.instanceMethod yX2_init ∈ zT := zT_in 111 (by decide +kernel) (by decide +kernel)
theorem ckX2_isFull : zCk yX2_isFull cX2_isFull 1 (some .boolean) 0 := ⟨zT_in 476 (by decide +kernel) (by decide +kernel), zT_in 45 (by decide +kernel) (by decide +kernel), by decide +kernel⟩
theorem kiX2_isFull : Cond.instanceMethod yX2_isFull ∈ zT := zT_in 474 (by decide +kernel) (by decide +kernel)
theorem kvX2_isFull : Cond.instanceMethod yX2_isFull ∈ zT ∧ Cond.selects yX2_isFull.cls yX2_isFull yX2_isFull ∈ zT := ⟨kiX2_isFull, zT_in 475 (by decide +kernel) (by decide +kernel)⟩
theorem ckX2_append : zCk yX2_append cX2_append 2 none 1 := ⟨zT_in 532 (by decide +kernel) (by decide +kernel), zT_in 45 (by decide +kernel) (by decide +kernel), by decide +kernel⟩
theorem kiX2_append : Cond.instanceMethod yX2_append ∈ zT := zT_in 530 (by decide +kernel) (by decide +kernel)
theorem kvX2_append : Cond.instanceMethod yX2_append ∈ zT ∧ Cond.selects yX2_append.cls yX2_append yX2_append ∈ zT := ⟨kiX2_append, zT_in 531 (by decide +kernel) (by decide +kernel)⟩
theorem ckX2_greatestWithin : zCk yX2_greatestWithin cX2_greatestWithin 8 (some (.object "GiftRing$Debt")) 4 := ⟨zT_in 440 (by decide +kernel) (by decide +kernel), zT_in 45 (by decide +kernel) (by decide +kernel), by decide +kernel⟩
theorem kiX2_greatestWithin : Cond.instanceMethod yX2_greatestWithin ∈ zT := zT_in 438 (by decide +kernel) (by decide +kernel)
theorem kvX2_greatestWithin : Cond.instanceMethod yX2_greatestWithin ∈ zT ∧ Cond.selects yX2_greatestWithin.cls yX2_greatestWithin yX2_greatestWithin ∈ zT := ⟨kiX2_greatestWithin, zT_in 439 (by decide +kernel) (by decide +kernel)⟩
theorem ckX2_firstOpen : zCk yX2_firstOpen cX2_firstOpen 5 (some (.object "GiftRing$Debt")) 3 := ⟨zT_in 464 (by decide +kernel) (by decide +kernel), zT_in 45 (by decide +kernel) (by decide +kernel), by decide +kernel⟩
theorem kiX2_firstOpen : Cond.instanceMethod yX2_firstOpen ∈ zT := zT_in 462 (by decide +kernel) (by decide +kernel)
theorem kvX2_firstOpen : Cond.instanceMethod yX2_firstOpen ∈ zT ∧ Cond.selects yX2_firstOpen.cls yX2_firstOpen yX2_firstOpen ∈ zT := ⟨kiX2_firstOpen, zT_in 463 (by decide +kernel) (by decide +kernel)⟩
theorem ckX2_isOpenFor : zCk yX2_isOpenFor cX2_isOpenFor 4 (some .boolean) 4 := ⟨zT_in 443 (by decide +kernel) (by decide +kernel), zT_in 45 (by decide +kernel) (by decide +kernel), by decide +kernel⟩
theorem ksX2_isOpenFor : Cond.static yX2_isOpenFor ∈ zT := zT_in 442 (by decide +kernel) (by decide +kernel)
theorem ckX2_haveQuarrel : zCk yX2_haveQuarrel cX2_haveQuarrel 6 (some .boolean) 3 := ⟨zT_in 455 (by decide +kernel) (by decide +kernel), zT_in 45 (by decide +kernel) (by decide +kernel), by decide +kernel⟩
theorem kiX2_haveQuarrel : Cond.instanceMethod yX2_haveQuarrel ∈ zT := zT_in 453 (by decide +kernel) (by decide +kernel)
theorem kvX2_haveQuarrel : Cond.instanceMethod yX2_haveQuarrel ∈ zT ∧ Cond.selects yX2_haveQuarrel.cls yX2_haveQuarrel yX2_haveQuarrel ∈ zT := ⟨kiX2_haveQuarrel, zT_in 454 (by decide +kernel) (by decide +kernel)⟩
theorem ckX2_pass : zCk yX2_pass cX2_pass 5 none 2 := ⟨zT_in 553 (by decide +kernel) (by decide +kernel), zT_in 45 (by decide +kernel) (by decide +kernel), by decide +kernel⟩
theorem kiX2_pass : Cond.instanceMethod yX2_pass ∈ zT := zT_in 551 (by decide +kernel) (by decide +kernel)
theorem kvX2_pass : Cond.instanceMethod yX2_pass ∈ zT ∧ Cond.selects yX2_pass.cls yX2_pass yX2_pass ∈ zT := ⟨kiX2_pass, zT_in 552 (by decide +kernel) (by decide +kernel)⟩
theorem ckX2_openOnes : zCk yX2_openOnes cX2_openOnes 6 (some .int) 2 := ⟨zT_in 667 (by decide +kernel) (by decide +kernel), zT_in 45 (by decide +kernel) (by decide +kernel), by decide +kernel⟩
theorem kiX2_openOnes : Cond.instanceMethod yX2_openOnes ∈ zT := zT_in 665 (by decide +kernel) (by decide +kernel)
theorem kvX2_openOnes : Cond.instanceMethod yX2_openOnes ∈ zT ∧ Cond.selects yX2_openOnes.cls yX2_openOnes yX2_openOnes ∈ zT := ⟨kiX2_openOnes, zT_in 666 (by decide +kernel) (by decide +kernel)⟩
theorem ckX2_lateOnesOf : zCk yX2_lateOnesOf cX2_lateOnesOf 5 (some .int) 2 := ⟨zT_in 671 (by decide +kernel) (by decide +kernel), zT_in 45 (by decide +kernel) (by decide +kernel), by decide +kernel⟩
theorem kiX2_lateOnesOf : Cond.instanceMethod yX2_lateOnesOf ∈ zT := zT_in 669 (by decide +kernel) (by decide +kernel)
theorem kvX2_lateOnesOf : Cond.instanceMethod yX2_lateOnesOf ∈ zT ∧ Cond.selects yX2_lateOnesOf.cls yX2_lateOnesOf yX2_lateOnesOf ∈ zT := ⟨kiX2_lateOnesOf, zT_in 670 (by decide +kernel) (by decide +kernel)⟩
theorem ckX3_init : zCk yX3_init cX3_init 2 none 1 := ⟨zT_in 308 (by decide +kernel) (by decide +kernel), zT_in 53 (by decide +kernel) (by decide +kernel), by decide +kernel⟩
theorem kiX3_init : Cond.instanceMethod yX3_init ∈ zT := zT_in 307 (by decide +kernel) (by decide +kernel)
theorem ckX3_isPartnerOf : zCk yX3_isPartnerOf cX3_isPartnerOf 2 (some .boolean) 1 := ⟨zT_in 342 (by decide +kernel) (by decide +kernel), zT_in 53 (by decide +kernel) (by decide +kernel), by decide +kernel⟩
theorem kiX3_isPartnerOf : Cond.instanceMethod yX3_isPartnerOf ∈ zT := zT_in 340 (by decide +kernel) (by decide +kernel)
theorem kvX3_isPartnerOf : Cond.instanceMethod yX3_isPartnerOf ∈ zT ∧ Cond.selects yX3_isPartnerOf.cls yX3_isPartnerOf yX3_isPartnerOf ∈ zT := ⟨kiX3_isPartnerOf, zT_in 341 (by decide +kernel) (by decide +kernel)⟩
theorem ckX3_addPartner : zCk yX3_addPartner cX3_addPartner 2 none 1 := ⟨zT_in 356 (by decide +kernel) (by decide +kernel), zT_in 53 (by decide +kernel) (by decide +kernel), by decide +kernel⟩
theorem kiX3_addPartner : Cond.instanceMethod yX3_addPartner ∈ zT := zT_in 354 (by decide +kernel) (by decide +kernel)
theorem kvX3_addPartner : Cond.instanceMethod yX3_addPartner ∈ zT ∧ Cond.selects yX3_addPartner.cls yX3_addPartner yX3_addPartner ∈ zT := ⟨kiX3_addPartner, zT_in 355 (by decide +kernel) (by decide +kernel)⟩
theorem ckX3_dropPartner : zCk yX3_dropPartner cX3_dropPartner 2 none 1 := ⟨zT_in 561 (by decide +kernel) (by decide +kernel), zT_in 53 (by decide +kernel) (by decide +kernel), by decide +kernel⟩
theorem kiX3_dropPartner : Cond.instanceMethod yX3_dropPartner ∈ zT := zT_in 559 (by decide +kernel) (by decide +kernel)
theorem kvX3_dropPartner : Cond.instanceMethod yX3_dropPartner ∈ zT ∧ Cond.selects yX3_dropPartner.cls yX3_dropPartner yX3_dropPartner ∈ zT := ⟨kiX3_dropPartner, zT_in 560 (by decide +kernel) (by decide +kernel)⟩
theorem ckX4_init : zCk yX4_init cX4_init 1 none 0 := ⟨zT_in 129 (by decide +kernel) (by decide +kernel), zT_in 46 (by decide +kernel) (by decide +kernel), by decide +kernel⟩
theorem kiX4_init : Cond.instanceMethod yX4_init ∈ zT := zT_in 128 (by decide +kernel) (by decide +kernel)
theorem ckX4_clear : zCk yX4_clear cX4_clear 1 none 0 := ⟨zT_in 590 (by decide +kernel) (by decide +kernel), zT_in 46 (by decide +kernel) (by decide +kernel), by decide +kernel⟩
theorem kiX4_clear : Cond.instanceMethod yX4_clear ∈ zT := zT_in 588 (by decide +kernel) (by decide +kernel)
theorem kvX4_clear : Cond.instanceMethod yX4_clear ∈ zT ∧ Cond.selects yX4_clear.cls yX4_clear yX4_clear ∈ zT := ⟨kiX4_clear, zT_in 589 (by decide +kernel) (by decide +kernel)⟩
theorem ckX4_addTreasure : zCk yX4_addTreasure cX4_addTreasure 3 none 2 := ⟨zT_in 594 (by decide +kernel) (by decide +kernel), zT_in 46 (by decide +kernel) (by decide +kernel), by decide +kernel⟩
theorem kiX4_addTreasure : Cond.instanceMethod yX4_addTreasure ∈ zT := zT_in 592 (by decide +kernel) (by decide +kernel)
theorem kvX4_addTreasure : Cond.instanceMethod yX4_addTreasure ∈ zT ∧ Cond.selects yX4_addTreasure.cls yX4_addTreasure yX4_addTreasure ∈ zT := ⟨kiX4_addTreasure, zT_in 593 (by decide +kernel) (by decide +kernel)⟩
theorem ckX4_addDebt : zCk yX4_addDebt cX4_addDebt 2 none 1 := ⟨zT_in 599 (by decide +kernel) (by decide +kernel), zT_in 46 (by decide +kernel) (by decide +kernel), by decide +kernel⟩
theorem kiX4_addDebt : Cond.instanceMethod yX4_addDebt ∈ zT := zT_in 597 (by decide +kernel) (by decide +kernel)
theorem kvX4_addDebt : Cond.instanceMethod yX4_addDebt ∈ zT ∧ Cond.selects yX4_addDebt.cls yX4_addDebt yX4_addDebt ∈ zT := ⟨kiX4_addDebt, zT_in 598 (by decide +kernel) (by decide +kernel)⟩
theorem ckX4_solve : zCk yX4_solve cX4_solve 5 (some .int) 0 := ⟨zT_in 603 (by decide +kernel) (by decide +kernel), zT_in 46 (by decide +kernel) (by decide +kernel), by decide +kernel⟩
theorem kiX4_solve : Cond.instanceMethod yX4_solve ∈ zT := zT_in 601 (by decide +kernel) (by decide +kernel)
theorem kvX4_solve : Cond.instanceMethod yX4_solve ∈ zT ∧ Cond.selects yX4_solve.cls yX4_solve yX4_solve ∈ zT := ⟨kiX4_solve, zT_in 602 (by decide +kernel) (by decide +kernel)⟩
theorem ckX4_weighAll : zCk yX4_weighAll cX4_weighAll 4 none 0 := ⟨zT_in 607 (by decide +kernel) (by decide +kernel), zT_in 46 (by decide +kernel) (by decide +kernel), by decide +kernel⟩
theorem kiX4_weighAll : Cond.instanceMethod yX4_weighAll ∈ zT := zT_in 606 (by decide +kernel) (by decide +kernel)
theorem kvX4_weighAll : Cond.instanceMethod yX4_weighAll ∈ zT ∧ Cond.selects yX4_weighAll.cls yX4_weighAll yX4_weighAll ∈ zT := ⟨kiX4_weighAll, zT_in 11 (by decide +kernel) (by decide +kernel)⟩
theorem ckX4_weigh : zCk yX4_weigh cX4_weigh 5 (some .int) 2 := ⟨zT_in 614 (by decide +kernel) (by decide +kernel), zT_in 46 (by decide +kernel) (by decide +kernel), by decide +kernel⟩
theorem kiX4_weigh : Cond.instanceMethod yX4_weigh ∈ zT := zT_in 613 (by decide +kernel) (by decide +kernel)
theorem kvX4_weigh : Cond.instanceMethod yX4_weigh ∈ zT ∧ Cond.selects yX4_weigh.cls yX4_weigh yX4_weigh ∈ zT := ⟨kiX4_weigh, zT_in 12 (by decide +kernel) (by decide +kernel)⟩
theorem ckX4_canClose : zCk yX4_canClose cX4_canClose 4 (some .boolean) 3 := ⟨zT_in 618 (by decide +kernel) (by decide +kernel), zT_in 46 (by decide +kernel) (by decide +kernel), by decide +kernel⟩
theorem kiX4_canClose : Cond.instanceMethod yX4_canClose ∈ zT := zT_in 617 (by decide +kernel) (by decide +kernel)
theorem kvX4_canClose : Cond.instanceMethod yX4_canClose ∈ zT ∧ Cond.selects yX4_canClose.cls yX4_canClose yX4_canClose ∈ zT := ⟨kiX4_canClose, zT_in 13 (by decide +kernel) (by decide +kernel)⟩
theorem ckX4_weightWith : zCk yX4_weightWith cX4_weightWith 4 (some .int) 3 := ⟨zT_in 622 (by decide +kernel) (by decide +kernel), zT_in 46 (by decide +kernel) (by decide +kernel), by decide +kernel⟩
theorem kiX4_weightWith : Cond.instanceMethod yX4_weightWith ∈ zT := zT_in 621 (by decide +kernel) (by decide +kernel)
theorem kvX4_weightWith : Cond.instanceMethod yX4_weightWith ∈ zT ∧ Cond.selects yX4_weightWith.cls yX4_weightWith yX4_weightWith ∈ zT := ⟨kiX4_weightWith, zT_in 14 (by decide +kernel) (by decide +kernel)⟩
theorem ckX4_choiceFor : zCk yX4_choiceFor cX4_choiceFor 4 (some .int) 2 := ⟨zT_in 629 (by decide +kernel) (by decide +kernel), zT_in 46 (by decide +kernel) (by decide +kernel), by decide +kernel⟩
theorem kiX4_choiceFor : Cond.instanceMethod yX4_choiceFor ∈ zT := zT_in 628 (by decide +kernel) (by decide +kernel)
theorem kvX4_choiceFor : Cond.instanceMethod yX4_choiceFor ∈ zT ∧ Cond.selects yX4_choiceFor.cls yX4_choiceFor yX4_choiceFor ∈ zT := ⟨kiX4_choiceFor, zT_in 15 (by decide +kernel) (by decide +kernel)⟩
theorem ckX5_init : zCk yX5_init cX5_init 1 none 0 := ⟨zT_in 71 (by decide +kernel) (by decide +kernel), zT_in 43 (by decide +kernel) (by decide +kernel), by decide +kernel⟩
theorem kiX5_init : Cond.instanceMethod yX5_init ∈ zT := zT_in 70 (by decide +kernel) (by decide +kernel)
theorem ckX5_append : zCk yX5_append cX5_append 3 none 1 := ⟨zT_in 204 (by decide +kernel) (by decide +kernel), zT_in 43 (by decide +kernel) (by decide +kernel), by decide +kernel⟩
theorem kiX5_append : Cond.instanceMethod yX5_append ∈ zT := zT_in 202 (by decide +kernel) (by decide +kernel)
theorem kvX5_append : Cond.instanceMethod yX5_append ∈ zT ∧ Cond.selects yX5_append.cls yX5_append yX5_append ∈ zT := ⟨kiX5_append, zT_in 203 (by decide +kernel) (by decide +kernel)⟩
theorem ckX5_byteAt : zCk yX5_byteAt cX5_byteAt 3 (some .int) 2 := ⟨zT_in 222 (by decide +kernel) (by decide +kernel), zT_in 43 (by decide +kernel) (by decide +kernel), by decide +kernel⟩
theorem kiX5_byteAt : Cond.instanceMethod yX5_byteAt ∈ zT := zT_in 220 (by decide +kernel) (by decide +kernel)
theorem kvX5_byteAt : Cond.instanceMethod yX5_byteAt ∈ zT ∧ Cond.selects yX5_byteAt.cls yX5_byteAt yX5_byteAt ∈ zT := ⟨kiX5_byteAt, zT_in 221 (by decide +kernel) (by decide +kernel)⟩
theorem ckX6_init : zCk yX6_init cX6_init 3 none 2 := ⟨zT_in 364 (by decide +kernel) (by decide +kernel), zT_in 55 (by decide +kernel) (by decide +kernel), by decide +kernel⟩
theorem kiX6_init : Cond.instanceMethod yX6_init ∈ zT := zT_in 363 (by decide +kernel) (by decide +kernel)
theorem ckX6_comeTo : zCk yX6_comeTo cX6_comeTo 3 none 2 := ⟨zT_in 412 (by decide +kernel) (by decide +kernel), zT_in 55 (by decide +kernel) (by decide +kernel), by decide +kernel⟩
theorem kiX6_comeTo : Cond.instanceMethod yX6_comeTo ∈ zT := zT_in 410 (by decide +kernel) (by decide +kernel)
theorem kvX6_comeTo : Cond.instanceMethod yX6_comeTo ∈ zT ∧ Cond.selects yX6_comeTo.cls yX6_comeTo yX6_comeTo ∈ zT := ⟨kiX6_comeTo, zT_in 411 (by decide +kernel) (by decide +kernel)⟩
theorem ckX6_isHeldBy : zCk yX6_isHeldBy cX6_isHeldBy 2 (some .boolean) 1 := ⟨zT_in 424 (by decide +kernel) (by decide +kernel), zT_in 55 (by decide +kernel) (by decide +kernel), by decide +kernel⟩
theorem kiX6_isHeldBy : Cond.instanceMethod yX6_isHeldBy ∈ zT := zT_in 422 (by decide +kernel) (by decide +kernel)
theorem kvX6_isHeldBy : Cond.instanceMethod yX6_isHeldBy ∈ zT ∧ Cond.selects yX6_isHeldBy.cls yX6_isHeldBy yX6_isHeldBy ∈ zT := ⟨kiX6_isHeldBy, zT_in 423 (by decide +kernel) (by decide +kernel)⟩
theorem ckX6_canBeGivenIn : zCk yX6_canBeGivenIn cX6_canBeGivenIn 2 (some .boolean) 1 := ⟨zT_in 428 (by decide +kernel) (by decide +kernel), zT_in 55 (by decide +kernel) (by decide +kernel), by decide +kernel⟩
theorem kiX6_canBeGivenIn : Cond.instanceMethod yX6_canBeGivenIn ∈ zT := zT_in 426 (by decide +kernel) (by decide +kernel)
theorem kvX6_canBeGivenIn : Cond.instanceMethod yX6_canBeGivenIn ∈ zT ∧ Cond.selects yX6_canBeGivenIn.cls yX6_canBeGivenIn yX6_canBeGivenIn ∈ zT := ⟨kiX6_canBeGivenIn, zT_in 427 (by decide +kernel) (by decide +kernel)⟩
theorem ckX6_holdersKept : zCk yX6_holdersKept cX6_holdersKept 1 (some .int) 0 := ⟨zT_in 581 (by decide +kernel) (by decide +kernel), zT_in 55 (by decide +kernel) (by decide +kernel), by decide +kernel⟩
theorem kiX6_holdersKept : Cond.instanceMethod yX6_holdersKept ∈ zT := zT_in 579 (by decide +kernel) (by decide +kernel)
theorem kvX6_holdersKept : Cond.instanceMethod yX6_holdersKept ∈ zT ∧ Cond.selects yX6_holdersKept.cls yX6_holdersKept yX6_holdersKept ∈ zT := ⟨kiX6_holdersKept, zT_in 580 (by decide +kernel) (by decide +kernel)⟩
theorem ckX7_init : zCk yX7_init cX7_init 1 none 0 := ⟨zT_in 63 (by decide +kernel) (by decide +kernel), zT_in 42 (by decide +kernel) (by decide +kernel), by decide +kernel⟩
theorem kiX7_init : Cond.instanceMethod yX7_init ∈ zT := zT_in 62 (by decide +kernel) (by decide +kernel)
theorem ckX7_feed : zCk yX7_feed cX7_feed 6 (some .int) 5 := ⟨zT_in 200 (by decide +kernel) (by decide +kernel), zT_in 42 (by decide +kernel) (by decide +kernel), by decide +kernel⟩
theorem kiX7_feed : Cond.instanceMethod yX7_feed ∈ zT := zT_in 198 (by decide +kernel) (by decide +kernel)
theorem kvX7_feed : Cond.instanceMethod yX7_feed ∈ zT ∧ Cond.selects yX7_feed.cls yX7_feed yX7_feed ∈ zT := ⟨kiX7_feed, zT_in 199 (by decide +kernel) (by decide +kernel)⟩
theorem ckX7_custom : zCk yX7_custom cX7_custom 3 (some .int) 1 := ⟨zT_in 208 (by decide +kernel) (by decide +kernel), zT_in 42 (by decide +kernel) (by decide +kernel), by decide +kernel⟩
theorem kiX7_custom : Cond.instanceMethod yX7_custom ∈ zT := zT_in 206 (by decide +kernel) (by decide +kernel)
theorem kvX7_custom : Cond.instanceMethod yX7_custom ∈ zT ∧ Cond.selects yX7_custom.cls yX7_custom yX7_custom ∈ zT := ⟨kiX7_custom, zT_in 207 (by decide +kernel) (by decide +kernel)⟩
theorem ckX7_islands : zCk yX7_islands cX7_islands 2 (some .boolean) 1 := ⟨zT_in 296 (by decide +kernel) (by decide +kernel), zT_in 42 (by decide +kernel) (by decide +kernel), by decide +kernel⟩
theorem kiX7_islands : Cond.instanceMethod yX7_islands ∈ zT := zT_in 294 (by decide +kernel) (by decide +kernel)
theorem kvX7_islands : Cond.instanceMethod yX7_islands ∈ zT ∧ Cond.selects yX7_islands.cls yX7_islands yX7_islands ∈ zT := ⟨kiX7_islands, zT_in 295 (by decide +kernel) (by decide +kernel)⟩
theorem ckX7_man : zCk yX7_man cX7_man 2 (some .int) 1 := ⟨zT_in 300 (by decide +kernel) (by decide +kernel), zT_in 42 (by decide +kernel) (by decide +kernel), by decide +kernel⟩
theorem kiX7_man : Cond.instanceMethod yX7_man ∈ zT := zT_in 298 (by decide +kernel) (by decide +kernel)
theorem kvX7_man : Cond.instanceMethod yX7_man ∈ zT ∧ Cond.selects yX7_man.cls yX7_man yX7_man ∈ zT := ⟨kiX7_man, zT_in 299 (by decide +kernel) (by decide +kernel)⟩
theorem ckX7_partners : zCk yX7_partners cX7_partners 5 (some .boolean) 2 := ⟨zT_in 330 (by decide +kernel) (by decide +kernel), zT_in 42 (by decide +kernel) (by decide +kernel), by decide +kernel⟩
theorem kiX7_partners : Cond.instanceMethod yX7_partners ∈ zT := zT_in 328 (by decide +kernel) (by decide +kernel)
theorem kvX7_partners : Cond.instanceMethod yX7_partners ∈ zT ∧ Cond.selects yX7_partners.cls yX7_partners yX7_partners ∈ zT := ⟨kiX7_partners, zT_in 329 (by decide +kernel) (by decide +kernel)⟩
theorem ckX7_treasure : zCk yX7_treasure cX7_treasure 5 (some .int) 3 := ⟨zT_in 360 (by decide +kernel) (by decide +kernel), zT_in 42 (by decide +kernel) (by decide +kernel), by decide +kernel⟩
theorem kiX7_treasure : Cond.instanceMethod yX7_treasure ∈ zT := zT_in 358 (by decide +kernel) (by decide +kernel)
theorem kvX7_treasure : Cond.instanceMethod yX7_treasure ∈ zT ∧ Cond.selects yX7_treasure.cls yX7_treasure yX7_treasure ∈ zT := ⟨kiX7_treasure, zT_in 359 (by decide +kernel) (by decide +kernel)⟩
theorem ckX7_isIsland : zCk yX7_isIsland cX7_isIsland 2 (some .boolean) 1 := ⟨zT_in 304 (by decide +kernel) (by decide +kernel), zT_in 42 (by decide +kernel) (by decide +kernel), by decide +kernel⟩
theorem kiX7_isIsland : Cond.instanceMethod yX7_isIsland ∈ zT := zT_in 303 (by decide +kernel) (by decide +kernel)
theorem kvX7_isIsland : Cond.instanceMethod yX7_isIsland ∈ zT ∧ Cond.selects yX7_isIsland.cls yX7_isIsland yX7_isIsland ∈ zT := ⟨kiX7_isIsland, zT_in 1 (by decide +kernel) (by decide +kernel)⟩
theorem ckX7_anyMan : zCk yX7_anyMan cX7_anyMan 2 (some (.object "GiftRing$Man")) 1 := ⟨zT_in 338 (by decide +kernel) (by decide +kernel), zT_in 42 (by decide +kernel) (by decide +kernel), by decide +kernel⟩
theorem kiX7_anyMan : Cond.instanceMethod yX7_anyMan ∈ zT := zT_in 337 (by decide +kernel) (by decide +kernel)
theorem kvX7_anyMan : Cond.instanceMethod yX7_anyMan ∈ zT ∧ Cond.selects yX7_anyMan.cls yX7_anyMan yX7_anyMan ∈ zT := ⟨kiX7_anyMan, zT_in 3 (by decide +kernel) (by decide +kernel)⟩
theorem ckX7_livingMan : zCk yX7_livingMan cX7_livingMan 3 (some (.object "GiftRing$Man")) 1 := ⟨zT_in 334 (by decide +kernel) (by decide +kernel), zT_in 42 (by decide +kernel) (by decide +kernel), by decide +kernel⟩
theorem kiX7_livingMan : Cond.instanceMethod yX7_livingMan ∈ zT := zT_in 333 (by decide +kernel) (by decide +kernel)
theorem kvX7_livingMan : Cond.instanceMethod yX7_livingMan ∈ zT ∧ Cond.selects yX7_livingMan.cls yX7_livingMan yX7_livingMan ∈ zT := ⟨kiX7_livingMan, zT_in 2 (by decide +kernel) (by decide +kernel)⟩
theorem ckX7_anyTreasure : zCk yX7_anyTreasure cX7_anyTreasure 2 (some (.object "GiftRing$Treasure")) 1 := ⟨zT_in 420 (by decide +kernel) (by decide +kernel), zT_in 42 (by decide +kernel) (by decide +kernel), by decide +kernel⟩
theorem kiX7_anyTreasure : Cond.instanceMethod yX7_anyTreasure ∈ zT := zT_in 419 (by decide +kernel) (by decide +kernel)
theorem kvX7_anyTreasure : Cond.instanceMethod yX7_anyTreasure ∈ zT ∧ Cond.selects yX7_anyTreasure.cls yX7_anyTreasure yX7_anyTreasure ∈ zT := ⟨kiX7_anyTreasure, zT_in 5 (by decide +kernel) (by decide +kernel)⟩
theorem ckX7_stepsBetween : zCk yX7_stepsBetween cX7_stepsBetween 4 (some .int) 2 := ⟨zT_in 346 (by decide +kernel) (by decide +kernel), zT_in 42 (by decide +kernel) (by decide +kernel), by decide +kernel⟩
theorem kiX7_stepsBetween : Cond.instanceMethod yX7_stepsBetween ∈ zT := zT_in 345 (by decide +kernel) (by decide +kernel)
theorem kvX7_stepsBetween : Cond.instanceMethod yX7_stepsBetween ∈ zT ∧ Cond.selects yX7_stepsBetween.cls yX7_stepsBetween yX7_stepsBetween ∈ zT := ⟨kiX7_stepsBetween, zT_in 4 (by decide +kernel) (by decide +kernel)⟩
theorem ckX7_give : zCk yX7_give cX7_give 7 (some .int) 3 := ⟨zT_in 416 (by decide +kernel) (by decide +kernel), zT_in 42 (by decide +kernel) (by decide +kernel), by decide +kernel⟩
theorem kiX7_give : Cond.instanceMethod yX7_give ∈ zT := zT_in 414 (by decide +kernel) (by decide +kernel)
theorem kvX7_give : Cond.instanceMethod yX7_give ∈ zT ∧ Cond.selects yX7_give.cls yX7_give yX7_give ∈ zT := ⟨kiX7_give, zT_in 415 (by decide +kernel) (by decide +kernel)⟩
theorem ckX7_isOnWay : zCk yX7_isOnWay cX7_isOnWay 8 (some .boolean) 3 := ⟨zT_in 432 (by decide +kernel) (by decide +kernel), zT_in 42 (by decide +kernel) (by decide +kernel), by decide +kernel⟩
theorem kiX7_isOnWay : Cond.instanceMethod yX7_isOnWay ∈ zT := zT_in 431 (by decide +kernel) (by decide +kernel)
theorem kvX7_isOnWay : Cond.instanceMethod yX7_isOnWay ∈ zT ∧ Cond.selects yX7_isOnWay.cls yX7_isOnWay yX7_isOnWay ∈ zT := ⟨kiX7_isOnWay, zT_in 6 (by decide +kernel) (by decide +kernel)⟩
theorem ckX7_settle : zCk yX7_settle cX7_settle 9 (some .int) 4 := ⟨zT_in 436 (by decide +kernel) (by decide +kernel), zT_in 42 (by decide +kernel) (by decide +kernel), by decide +kernel⟩
theorem kiX7_settle : Cond.instanceMethod yX7_settle ∈ zT := zT_in 435 (by decide +kernel) (by decide +kernel)
theorem kvX7_settle : Cond.instanceMethod yX7_settle ∈ zT ∧ Cond.selects yX7_settle.cls yX7_settle yX7_settle ∈ zT := ⟨kiX7_settle, zT_in 7 (by decide +kernel) (by decide +kernel)⟩
theorem ckX7_season : zCk yX7_season cX7_season 4 (some .int) 0 := ⟨zT_in 537 (by decide +kernel) (by decide +kernel), zT_in 42 (by decide +kernel) (by decide +kernel), by decide +kernel⟩
theorem kiX7_season : Cond.instanceMethod yX7_season ∈ zT := zT_in 535 (by decide +kernel) (by decide +kernel)
theorem kvX7_season : Cond.instanceMethod yX7_season ∈ zT ∧ Cond.selects yX7_season.cls yX7_season yX7_season ∈ zT := ⟨kiX7_season, zT_in 536 (by decide +kernel) (by decide +kernel)⟩
theorem ckX7_dies : zCk yX7_dies cX7_dies 5 (some .boolean) 2 := ⟨zT_in 545 (by decide +kernel) (by decide +kernel), zT_in 42 (by decide +kernel) (by decide +kernel), by decide +kernel⟩
theorem kiX7_dies : Cond.instanceMethod yX7_dies ∈ zT := zT_in 543 (by decide +kernel) (by decide +kernel)
theorem kvX7_dies : Cond.instanceMethod yX7_dies ∈ zT ∧ Cond.selects yX7_dies.cls yX7_dies yX7_dies ∈ zT := ⟨kiX7_dies, zT_in 544 (by decide +kernel) (by decide +kernel)⟩
theorem ckX7_passTreasures : zCk yX7_passTreasures cX7_passTreasures 4 none 2 := ⟨zT_in 549 (by decide +kernel) (by decide +kernel), zT_in 42 (by decide +kernel) (by decide +kernel), by decide +kernel⟩
theorem kiX7_passTreasures : Cond.instanceMethod yX7_passTreasures ∈ zT := zT_in 548 (by decide +kernel) (by decide +kernel)
theorem kvX7_passTreasures : Cond.instanceMethod yX7_passTreasures ∈ zT ∧ Cond.selects yX7_passTreasures.cls yX7_passTreasures yX7_passTreasures ∈ zT := ⟨kiX7_passTreasures, zT_in 8 (by decide +kernel) (by decide +kernel)⟩
theorem ckX7_passPartners : zCk yX7_passPartners cX7_passPartners 4 none 2 := ⟨zT_in 557 (by decide +kernel) (by decide +kernel), zT_in 42 (by decide +kernel) (by decide +kernel), by decide +kernel⟩
theorem kiX7_passPartners : Cond.instanceMethod yX7_passPartners ∈ zT := zT_in 556 (by decide +kernel) (by decide +kernel)
theorem kvX7_passPartners : Cond.instanceMethod yX7_passPartners ∈ zT ∧ Cond.selects yX7_passPartners.cls yX7_passPartners yX7_passPartners ∈ zT := ⟨kiX7_passPartners, zT_in 9 (by decide +kernel) (by decide +kernel)⟩
theorem ckX7_lost : zCk yX7_lost cX7_lost 3 (some .boolean) 1 := ⟨zT_in 565 (by decide +kernel) (by decide +kernel), zT_in 42 (by decide +kernel) (by decide +kernel), by decide +kernel⟩
theorem kiX7_lost : Cond.instanceMethod yX7_lost ∈ zT := zT_in 563 (by decide +kernel) (by decide +kernel)
theorem kvX7_lost : Cond.instanceMethod yX7_lost ∈ zT ∧ Cond.selects yX7_lost.cls yX7_lost yX7_lost ∈ zT := ⟨kiX7_lost, zT_in 564 (by decide +kernel) (by decide +kernel)⟩
theorem ckX7_known : zCk yX7_known cX7_known 5 (some .int) 2 := ⟨zT_in 569 (by decide +kernel) (by decide +kernel), zT_in 42 (by decide +kernel) (by decide +kernel), by decide +kernel⟩
theorem kiX7_known : Cond.instanceMethod yX7_known ∈ zT := zT_in 567 (by decide +kernel) (by decide +kernel)
theorem kvX7_known : Cond.instanceMethod yX7_known ∈ zT ∧ Cond.selects yX7_known.cls yX7_known yX7_known ∈ zT := ⟨kiX7_known, zT_in 568 (by decide +kernel) (by decide +kernel)⟩
theorem ckX7_hasCome : zCk yX7_hasCome cX7_hasCome 5 (some .boolean) 3 := ⟨zT_in 573 (by decide +kernel) (by decide +kernel), zT_in 42 (by decide +kernel) (by decide +kernel), by decide +kernel⟩
theorem kiX7_hasCome : Cond.instanceMethod yX7_hasCome ∈ zT := zT_in 572 (by decide +kernel) (by decide +kernel)
theorem kvX7_hasCome : Cond.instanceMethod yX7_hasCome ∈ zT ∧ Cond.selects yX7_hasCome.cls yX7_hasCome yX7_hasCome ∈ zT := ⟨kiX7_hasCome, zT_in 10 (by decide +kernel) (by decide +kernel)⟩
theorem ckX7_way : zCk yX7_way cX7_way 4 (some .int) 2 := ⟨zT_in 577 (by decide +kernel) (by decide +kernel), zT_in 42 (by decide +kernel) (by decide +kernel), by decide +kernel⟩
theorem kiX7_way : Cond.instanceMethod yX7_way ∈ zT := zT_in 575 (by decide +kernel) (by decide +kernel)
theorem kvX7_way : Cond.instanceMethod yX7_way ∈ zT ∧ Cond.selects yX7_way.cls yX7_way yX7_way ∈ zT := ⟨kiX7_way, zT_in 576 (by decide +kernel) (by decide +kernel)⟩
theorem ckX7_closings : zCk yX7_closings cX7_closings 4 (some .int) 1 := ⟨zT_in 586 (by decide +kernel) (by decide +kernel), zT_in 42 (by decide +kernel) (by decide +kernel), by decide +kernel⟩
theorem kiX7_closings : Cond.instanceMethod yX7_closings ∈ zT := zT_in 584 (by decide +kernel) (by decide +kernel)
theorem kvX7_closings : Cond.instanceMethod yX7_closings ∈ zT ∧ Cond.selects yX7_closings.cls yX7_closings yX7_closings ∈ zT := ⟨kiX7_closings, zT_in 585 (by decide +kernel) (by decide +kernel)⟩
theorem ckX7_closing : zCk yX7_closing cX7_closing 2 (some .int) 1 := ⟨zT_in 633 (by decide +kernel) (by decide +kernel), zT_in 42 (by decide +kernel) (by decide +kernel), by decide +kernel⟩
theorem kiX7_closing : Cond.instanceMethod yX7_closing ∈ zT := zT_in 631 (by decide +kernel) (by decide +kernel)
theorem kvX7_closing : Cond.instanceMethod yX7_closing ∈ zT ∧ Cond.selects yX7_closing.cls yX7_closing yX7_closing ∈ zT := ⟨kiX7_closing, zT_in 632 (by decide +kernel) (by decide +kernel)⟩
theorem ckX7_soonest : zCk yX7_soonest cX7_soonest 4 (some .int) 2 := ⟨zT_in 637 (by decide +kernel) (by decide +kernel), zT_in 42 (by decide +kernel) (by decide +kernel), by decide +kernel⟩
theorem kiX7_soonest : Cond.instanceMethod yX7_soonest ∈ zT := zT_in 635 (by decide +kernel) (by decide +kernel)
theorem kvX7_soonest : Cond.instanceMethod yX7_soonest ∈ zT ∧ Cond.selects yX7_soonest.cls yX7_soonest yX7_soonest ∈ zT := ⟨kiX7_soonest, zT_in 636 (by decide +kernel) (by decide +kernel)⟩
theorem ckX7_through : zCk yX7_through cX7_through 8 (some .int) 3 := ⟨zT_in 650 (by decide +kernel) (by decide +kernel), zT_in 42 (by decide +kernel) (by decide +kernel), by decide +kernel⟩
theorem kiX7_through : Cond.instanceMethod yX7_through ∈ zT := zT_in 648 (by decide +kernel) (by decide +kernel)
theorem kvX7_through : Cond.instanceMethod yX7_through ∈ zT ∧ Cond.selects yX7_through.cls yX7_through yX7_through ∈ zT := ⟨kiX7_through, zT_in 649 (by decide +kernel) (by decide +kernel)⟩
theorem ckX7_measureGiftsTo : zCk yX7_measureGiftsTo cX7_measureGiftsTo 5 none 2 := ⟨zT_in 641 (by decide +kernel) (by decide +kernel), zT_in 42 (by decide +kernel) (by decide +kernel), by decide +kernel⟩
theorem kiX7_measureGiftsTo : Cond.instanceMethod yX7_measureGiftsTo ∈ zT := zT_in 640 (by decide +kernel) (by decide +kernel)
theorem kvX7_measureGiftsTo : Cond.instanceMethod yX7_measureGiftsTo ∈ zT ∧ Cond.selects yX7_measureGiftsTo.cls yX7_measureGiftsTo yX7_measureGiftsTo ∈ zT := ⟨kiX7_measureGiftsTo, zT_in 16 (by decide +kernel) (by decide +kernel)⟩
theorem ckX7_firstAt : zCk yX7_firstAt cX7_firstAt 5 (some .int) 3 := ⟨zT_in 646 (by decide +kernel) (by decide +kernel), zT_in 42 (by decide +kernel) (by decide +kernel), by decide +kernel⟩
theorem kiX7_firstAt : Cond.instanceMethod yX7_firstAt ∈ zT := zT_in 645 (by decide +kernel) (by decide +kernel)
theorem kvX7_firstAt : Cond.instanceMethod yX7_firstAt ∈ zT ∧ Cond.selects yX7_firstAt.cls yX7_firstAt yX7_firstAt ∈ zT := ⟨kiX7_firstAt, zT_in 17 (by decide +kernel) (by decide +kernel)⟩
theorem ckX7_nextOnWay : zCk yX7_nextOnWay cX7_nextOnWay 3 (some .int) 2 := ⟨zT_in 655 (by decide +kernel) (by decide +kernel), zT_in 42 (by decide +kernel) (by decide +kernel), by decide +kernel⟩
theorem kiX7_nextOnWay : Cond.instanceMethod yX7_nextOnWay ∈ zT := zT_in 654 (by decide +kernel) (by decide +kernel)
theorem kvX7_nextOnWay : Cond.instanceMethod yX7_nextOnWay ∈ zT ∧ Cond.selects yX7_nextOnWay.cls yX7_nextOnWay yX7_nextOnWay ∈ zT := ⟨kiX7_nextOnWay, zT_in 18 (by decide +kernel) (by decide +kernel)⟩
theorem ckX7_look : zCk yX7_look cX7_look 4 (some .int) 2 := ⟨zT_in 659 (by decide +kernel) (by decide +kernel), zT_in 42 (by decide +kernel) (by decide +kernel), by decide +kernel⟩
theorem kiX7_look : Cond.instanceMethod yX7_look ∈ zT := zT_in 657 (by decide +kernel) (by decide +kernel)
theorem kvX7_look : Cond.instanceMethod yX7_look ∈ zT ∧ Cond.selects yX7_look.cls yX7_look yX7_look ∈ zT := ⟨kiX7_look, zT_in 658 (by decide +kernel) (by decide +kernel)⟩
theorem ckX7_treasuresHeldBy : zCk yX7_treasuresHeldBy cX7_treasuresHeldBy 4 (some .int) 1 := ⟨zT_in 663 (by decide +kernel) (by decide +kernel), zT_in 42 (by decide +kernel) (by decide +kernel), by decide +kernel⟩
theorem kiX7_treasuresHeldBy : Cond.instanceMethod yX7_treasuresHeldBy ∈ zT := zT_in 662 (by decide +kernel) (by decide +kernel)
theorem kvX7_treasuresHeldBy : Cond.instanceMethod yX7_treasuresHeldBy ∈ zT ∧ Cond.selects yX7_treasuresHeldBy.cls yX7_treasuresHeldBy yX7_treasuresHeldBy ∈ zT := ⟨kiX7_treasuresHeldBy, zT_in 19 (by decide +kernel) (by decide +kernel)⟩
theorem ckX7_told : zCk yX7_told cX7_told 4 (some .int) 2 := ⟨zT_in 681 (by decide +kernel) (by decide +kernel), zT_in 42 (by decide +kernel) (by decide +kernel), by decide +kernel⟩
theorem kiX7_told : Cond.instanceMethod yX7_told ∈ zT := zT_in 679 (by decide +kernel) (by decide +kernel)
theorem kvX7_told : Cond.instanceMethod yX7_told ∈ zT ∧ Cond.selects yX7_told.cls yX7_told yX7_told ∈ zT := ⟨kiX7_told, zT_in 680 (by decide +kernel) (by decide +kernel)⟩
theorem ckX7_debt : zCk yX7_debt cX7_debt 4 (some .int) 2 := ⟨zT_in 685 (by decide +kernel) (by decide +kernel), zT_in 42 (by decide +kernel) (by decide +kernel), by decide +kernel⟩
theorem kiX7_debt : Cond.instanceMethod yX7_debt ∈ zT := zT_in 683 (by decide +kernel) (by decide +kernel)
theorem kvX7_debt : Cond.instanceMethod yX7_debt ∈ zT ∧ Cond.selects yX7_debt.cls yX7_debt yX7_debt ∈ zT := ⟨kiX7_debt, zT_in 684 (by decide +kernel) (by decide +kernel)⟩
theorem ckX7_quarrel : zCk yX7_quarrel cX7_quarrel 3 (some .int) 2 := ⟨zT_in 694 (by decide +kernel) (by decide +kernel), zT_in 42 (by decide +kernel) (by decide +kernel), by decide +kernel⟩
theorem kiX7_quarrel : Cond.instanceMethod yX7_quarrel ∈ zT := zT_in 692 (by decide +kernel) (by decide +kernel)
theorem kvX7_quarrel : Cond.instanceMethod yX7_quarrel ∈ zT ∧ Cond.selects yX7_quarrel.cls yX7_quarrel yX7_quarrel ∈ zT := ⟨kiX7_quarrel, zT_in 693 (by decide +kernel) (by decide +kernel)⟩
theorem ckX7_count : zCk yX7_count cX7_count 2 (some .int) 1 := ⟨zT_in 698 (by decide +kernel) (by decide +kernel), zT_in 42 (by decide +kernel) (by decide +kernel), by decide +kernel⟩
theorem kiX7_count : Cond.instanceMethod yX7_count ∈ zT := zT_in 696 (by decide +kernel) (by decide +kernel)
theorem kvX7_count : Cond.instanceMethod yX7_count ∈ zT ∧ Cond.selects yX7_count.cls yX7_count yX7_count ∈ zT := ⟨kiX7_count, zT_in 697 (by decide +kernel) (by decide +kernel)⟩
theorem ckX7_livingMen : zCk yX7_livingMen cX7_livingMen 3 (some .int) 0 := ⟨zT_in 702 (by decide +kernel) (by decide +kernel), zT_in 42 (by decide +kernel) (by decide +kernel), by decide +kernel⟩
theorem kiX7_livingMen : Cond.instanceMethod yX7_livingMen ∈ zT := zT_in 701 (by decide +kernel) (by decide +kernel)
theorem kvX7_livingMen : Cond.instanceMethod yX7_livingMen ∈ zT ∧ Cond.selects yX7_livingMen.cls yX7_livingMen yX7_livingMen ∈ zT := ⟨kiX7_livingMen, zT_in 20 (by decide +kernel) (by decide +kernel)⟩
theorem ckX7_lostTreasures : zCk yX7_lostTreasures cX7_lostTreasures 3 (some .int) 0 := ⟨zT_in 706 (by decide +kernel) (by decide +kernel), zT_in 42 (by decide +kernel) (by decide +kernel), by decide +kernel⟩
theorem kiX7_lostTreasures : Cond.instanceMethod yX7_lostTreasures ∈ zT := zT_in 705 (by decide +kernel) (by decide +kernel)
theorem kvX7_lostTreasures : Cond.instanceMethod yX7_lostTreasures ∈ zT ∧ Cond.selects yX7_lostTreasures.cls yX7_lostTreasures yX7_lostTreasures ∈ zT := ⟨kiX7_lostTreasures, zT_in 21 (by decide +kernel) (by decide +kernel)⟩
theorem ckX8_init : zCk yX8_init cX8_init 2 none 0 := ⟨zT_in 715 (by decide +kernel) (by decide +kernel), zT_in 47 (by decide +kernel) (by decide +kernel), by decide +kernel⟩
theorem kiX8_init : Cond.instanceMethod yX8_init ∈ zT := zT_in 714 (by decide +kernel) (by decide +kernel)
theorem ckX8_begins : zCk yX8_begins cX8_begins 1 none 1 := ⟨zT_in 719 (by decide +kernel) (by decide +kernel), zT_in 47 (by decide +kernel) (by decide +kernel), by decide +kernel⟩
theorem ksX8_begins : Cond.static yX8_begins ∈ zT := zT_in 718 (by decide +kernel) (by decide +kernel)
theorem ckX8_types : zCk yX8_types cX8_types 3 none 1 := ⟨zT_in 855 (by decide +kernel) (by decide +kernel), zT_in 47 (by decide +kernel) (by decide +kernel), by decide +kernel⟩
theorem kiX8_types : Cond.instanceMethod yX8_types ∈ zT := zT_in 854 (by decide +kernel) (by decide +kernel)
theorem kvX8_types : Cond.instanceMethod yX8_types ∈ zT ∧ Cond.selects yX8_types.cls yX8_types yX8_types ∈ zT := ⟨kiX8_types, zT_in 22 (by decide +kernel) (by decide +kernel)⟩
theorem ckX8_feed : zCk yX8_feed cX8_feed 6 (some .int) 5 := ⟨zT_in 851 (by decide +kernel) (by decide +kernel), zT_in 47 (by decide +kernel) (by decide +kernel), by decide +kernel⟩
theorem kiX8_feed : Cond.instanceMethod yX8_feed ∈ zT := zT_in 849 (by decide +kernel) (by decide +kernel)
theorem kvX8_feed : Cond.instanceMethod yX8_feed ∈ zT ∧ Cond.selects yX8_feed.cls yX8_feed yX8_feed ∈ zT := ⟨kiX8_feed, zT_in 850 (by decide +kernel) (by decide +kernel)⟩
theorem ckX8_letterOf : zCk yX8_letterOf cX8_letterOf 1 (some .int) 1 := ⟨zT_in 866 (by decide +kernel) (by decide +kernel), zT_in 47 (by decide +kernel) (by decide +kernel), by decide +kernel⟩
theorem ksX8_letterOf : Cond.static yX8_letterOf ∈ zT := zT_in 865 (by decide +kernel) (by decide +kernel)
theorem ckX8_canBe : zCk yX8_canBe cX8_canBe 2 (some .boolean) 2 := ⟨zT_in 873 (by decide +kernel) (by decide +kernel), zT_in 47 (by decide +kernel) (by decide +kernel), by decide +kernel⟩
theorem ksX8_canBe : Cond.static yX8_canBe ∈ zT := zT_in 872 (by decide +kernel) (by decide +kernel)
theorem ckX8_isDigit : zCk yX8_isDigit cX8_isDigit 3 (some .boolean) 2 := ⟨zT_in 870 (by decide +kernel) (by decide +kernel), zT_in 47 (by decide +kernel) (by decide +kernel), by decide +kernel⟩
theorem kiX8_isDigit : Cond.instanceMethod yX8_isDigit ∈ zT := zT_in 869 (by decide +kernel) (by decide +kernel)
theorem kvX8_isDigit : Cond.instanceMethod yX8_isDigit ∈ zT ∧ Cond.selects yX8_isDigit.cls yX8_isDigit yX8_isDigit ∈ zT := ⟨kiX8_isDigit, zT_in 24 (by decide +kernel) (by decide +kernel)⟩
theorem ckX8_parse : zCk yX8_parse cX8_parse 6 (some .int) 1 := ⟨zT_in 863 (by decide +kernel) (by decide +kernel), zT_in 47 (by decide +kernel) (by decide +kernel), by decide +kernel⟩
theorem kiX8_parse : Cond.instanceMethod yX8_parse ∈ zT := zT_in 862 (by decide +kernel) (by decide +kernel)
theorem kvX8_parse : Cond.instanceMethod yX8_parse ∈ zT ∧ Cond.selects yX8_parse.cls yX8_parse yX8_parse ∈ zT := ⟨kiX8_parse, zT_in 23 (by decide +kernel) (by decide +kernel)⟩
theorem ckX8_custom : zCk yX8_custom cX8_custom 4 (some .int) 1 := ⟨zT_in 859 (by decide +kernel) (by decide +kernel), zT_in 47 (by decide +kernel) (by decide +kernel), by decide +kernel⟩
theorem kiX8_custom : Cond.instanceMethod yX8_custom ∈ zT := zT_in 857 (by decide +kernel) (by decide +kernel)
theorem kvX8_custom : Cond.instanceMethod yX8_custom ∈ zT ∧ Cond.selects yX8_custom.cls yX8_custom yX8_custom ∈ zT := ⟨kiX8_custom, zT_in 858 (by decide +kernel) (by decide +kernel)⟩
theorem ckX8_isMan : zCk yX8_isMan cX8_isMan 2 (some .boolean) 1 := ⟨zT_in 893 (by decide +kernel) (by decide +kernel), zT_in 47 (by decide +kernel) (by decide +kernel), by decide +kernel⟩
theorem kiX8_isMan : Cond.instanceMethod yX8_isMan ∈ zT := zT_in 892 (by decide +kernel) (by decide +kernel)
theorem kvX8_isMan : Cond.instanceMethod yX8_isMan ∈ zT ∧ Cond.selects yX8_isMan.cls yX8_isMan yX8_isMan ∈ zT := ⟨kiX8_isMan, zT_in 26 (by decide +kernel) (by decide +kernel)⟩
theorem ckX8_lives : zCk yX8_lives cX8_lives 2 (some .boolean) 1 := ⟨zT_in 889 (by decide +kernel) (by decide +kernel), zT_in 47 (by decide +kernel) (by decide +kernel), by decide +kernel⟩
theorem kiX8_lives : Cond.instanceMethod yX8_lives ∈ zT := zT_in 888 (by decide +kernel) (by decide +kernel)
theorem kvX8_lives : Cond.instanceMethod yX8_lives ∈ zT ∧ Cond.selects yX8_lives.cls yX8_lives yX8_lives ∈ zT := ⟨kiX8_lives, zT_in 25 (by decide +kernel) (by decide +kernel)⟩
theorem ckX8_islands : zCk yX8_islands cX8_islands 2 (some .boolean) 1 := ⟨zT_in 877 (by decide +kernel) (by decide +kernel), zT_in 47 (by decide +kernel) (by decide +kernel), by decide +kernel⟩
theorem kiX8_islands : Cond.instanceMethod yX8_islands ∈ zT := zT_in 875 (by decide +kernel) (by decide +kernel)
theorem kvX8_islands : Cond.instanceMethod yX8_islands ∈ zT ∧ Cond.selects yX8_islands.cls yX8_islands yX8_islands ∈ zT := ⟨kiX8_islands, zT_in 876 (by decide +kernel) (by decide +kernel)⟩
theorem ckX8_man : zCk yX8_man cX8_man 2 (some .int) 1 := ⟨zT_in 881 (by decide +kernel) (by decide +kernel), zT_in 47 (by decide +kernel) (by decide +kernel), by decide +kernel⟩
theorem kiX8_man : Cond.instanceMethod yX8_man ∈ zT := zT_in 879 (by decide +kernel) (by decide +kernel)
theorem kvX8_man : Cond.instanceMethod yX8_man ∈ zT ∧ Cond.selects yX8_man.cls yX8_man yX8_man ∈ zT := ⟨kiX8_man, zT_in 880 (by decide +kernel) (by decide +kernel)⟩
theorem ckX8_nextOf : zCk yX8_nextOf cX8_nextOf 2 (some .int) 1 := ⟨zT_in 897 (by decide +kernel) (by decide +kernel), zT_in 47 (by decide +kernel) (by decide +kernel), by decide +kernel⟩
theorem kiX8_nextOf : Cond.instanceMethod yX8_nextOf ∈ zT := zT_in 896 (by decide +kernel) (by decide +kernel)
theorem kvX8_nextOf : Cond.instanceMethod yX8_nextOf ∈ zT ∧ Cond.selects yX8_nextOf.cls yX8_nextOf yX8_nextOf ∈ zT := ⟨kiX8_nextOf, zT_in 27 (by decide +kernel) (by decide +kernel)⟩
theorem ckX8_partners : zCk yX8_partners cX8_partners 3 (some .boolean) 2 := ⟨zT_in 885 (by decide +kernel) (by decide +kernel), zT_in 47 (by decide +kernel) (by decide +kernel), by decide +kernel⟩
theorem kiX8_partners : Cond.instanceMethod yX8_partners ∈ zT := zT_in 883 (by decide +kernel) (by decide +kernel)
theorem kvX8_partners : Cond.instanceMethod yX8_partners ∈ zT ∧ Cond.selects yX8_partners.cls yX8_partners yX8_partners ∈ zT := ⟨kiX8_partners, zT_in 884 (by decide +kernel) (by decide +kernel)⟩
theorem ckX8_isTreasure : zCk yX8_isTreasure cX8_isTreasure 2 (some .boolean) 1 := ⟨zT_in 917 (by decide +kernel) (by decide +kernel), zT_in 47 (by decide +kernel) (by decide +kernel), by decide +kernel⟩
theorem kiX8_isTreasure : Cond.instanceMethod yX8_isTreasure ∈ zT := zT_in 916 (by decide +kernel) (by decide +kernel)
theorem kvX8_isTreasure : Cond.instanceMethod yX8_isTreasure ∈ zT ∧ Cond.selects yX8_isTreasure.cls yX8_isTreasure yX8_isTreasure ∈ zT := ⟨kiX8_isTreasure, zT_in 30 (by decide +kernel) (by decide +kernel)⟩
theorem ckX8_tellsNews : zCk yX8_tellsNews cX8_tellsNews 5 none 3 := ⟨zT_in 909 (by decide +kernel) (by decide +kernel), zT_in 47 (by decide +kernel) (by decide +kernel), by decide +kernel⟩
theorem kiX8_tellsNews : Cond.instanceMethod yX8_tellsNews ∈ zT := zT_in 908 (by decide +kernel) (by decide +kernel)
theorem kvX8_tellsNews : Cond.instanceMethod yX8_tellsNews ∈ zT ∧ Cond.selects yX8_tellsNews.cls yX8_tellsNews yX8_tellsNews ∈ zT := ⟨kiX8_tellsNews, zT_in 29 (by decide +kernel) (by decide +kernel)⟩
theorem ckX8_comesTo : zCk yX8_comesTo cX8_comesTo 3 none 2 := ⟨zT_in 905 (by decide +kernel) (by decide +kernel), zT_in 47 (by decide +kernel) (by decide +kernel), by decide +kernel⟩
theorem kiX8_comesTo : Cond.instanceMethod yX8_comesTo ∈ zT := zT_in 904 (by decide +kernel) (by decide +kernel)
theorem kvX8_comesTo : Cond.instanceMethod yX8_comesTo ∈ zT ∧ Cond.selects yX8_comesTo.cls yX8_comesTo yX8_comesTo ∈ zT := ⟨kiX8_comesTo, zT_in 28 (by decide +kernel) (by decide +kernel)⟩
theorem ckX8_treasure : zCk yX8_treasure cX8_treasure 4 (some .int) 3 := ⟨zT_in 901 (by decide +kernel) (by decide +kernel), zT_in 47 (by decide +kernel) (by decide +kernel), by decide +kernel⟩
theorem kiX8_treasure : Cond.instanceMethod yX8_treasure ∈ zT := zT_in 899 (by decide +kernel) (by decide +kernel)
theorem kvX8_treasure : Cond.instanceMethod yX8_treasure ∈ zT ∧ Cond.selects yX8_treasure.cls yX8_treasure yX8_treasure ∈ zT := ⟨kiX8_treasure, zT_in 900 (by decide +kernel) (by decide +kernel)⟩
theorem ckX8_apart : zCk yX8_apart cX8_apart 4 (some .int) 2 := ⟨zT_in 921 (by decide +kernel) (by decide +kernel), zT_in 47 (by decide +kernel) (by decide +kernel), by decide +kernel⟩
theorem kiX8_apart : Cond.instanceMethod yX8_apart ∈ zT := zT_in 920 (by decide +kernel) (by decide +kernel)
theorem kvX8_apart : Cond.instanceMethod yX8_apart ∈ zT ∧ Cond.selects yX8_apart.cls yX8_apart yX8_apart ∈ zT := ⟨kiX8_apart, zT_in 31 (by decide +kernel) (by decide +kernel)⟩
theorem ckX8_known : zCk yX8_known cX8_known 5 (some .int) 2 := ⟨zT_in 913 (by decide +kernel) (by decide +kernel), zT_in 47 (by decide +kernel) (by decide +kernel), by decide +kernel⟩
theorem kiX8_known : Cond.instanceMethod yX8_known ∈ zT := zT_in 911 (by decide +kernel) (by decide +kernel)
theorem kvX8_known : Cond.instanceMethod yX8_known ∈ zT ∧ Cond.selects yX8_known.cls yX8_known yX8_known ∈ zT := ⟨kiX8_known, zT_in 912 (by decide +kernel) (by decide +kernel)⟩
theorem ckX8_way : zCk yX8_way cX8_way 3 (some .int) 2 := ⟨zT_in 925 (by decide +kernel) (by decide +kernel), zT_in 47 (by decide +kernel) (by decide +kernel), by decide +kernel⟩
theorem kiX8_way : Cond.instanceMethod yX8_way ∈ zT := zT_in 923 (by decide +kernel) (by decide +kernel)
theorem kvX8_way : Cond.instanceMethod yX8_way ∈ zT ∧ Cond.selects yX8_way.cls yX8_way yX8_way ∈ zT := ⟨kiX8_way, zT_in 924 (by decide +kernel) (by decide +kernel)⟩
theorem ckX8_isOpen : zCk yX8_isOpen cX8_isOpen 2 (some .boolean) 1 := ⟨zT_in 941 (by decide +kernel) (by decide +kernel), zT_in 47 (by decide +kernel) (by decide +kernel), by decide +kernel⟩
theorem kiX8_isOpen : Cond.instanceMethod yX8_isOpen ∈ zT := zT_in 940 (by decide +kernel) (by decide +kernel)
theorem kvX8_isOpen : Cond.instanceMethod yX8_isOpen ∈ zT ∧ Cond.selects yX8_isOpen.cls yX8_isOpen yX8_isOpen ∈ zT := ⟨kiX8_isOpen, zT_in 34 (by decide +kernel) (by decide +kernel)⟩
theorem ckX8_isLate : zCk yX8_isLate cX8_isLate 2 (some .boolean) 1 := ⟨zT_in 949 (by decide +kernel) (by decide +kernel), zT_in 47 (by decide +kernel) (by decide +kernel), by decide +kernel⟩
theorem kiX8_isLate : Cond.instanceMethod yX8_isLate ∈ zT := zT_in 948 (by decide +kernel) (by decide +kernel)
theorem kvX8_isLate : Cond.instanceMethod yX8_isLate ∈ zT ∧ Cond.selects yX8_isLate.cls yX8_isLate yX8_isLate ∈ zT := ⟨kiX8_isLate, zT_in 36 (by decide +kernel) (by decide +kernel)⟩
theorem ckX8_quarrels : zCk yX8_quarrels cX8_quarrels 4 (some .boolean) 2 := ⟨zT_in 945 (by decide +kernel) (by decide +kernel), zT_in 47 (by decide +kernel) (by decide +kernel), by decide +kernel⟩
theorem kiX8_quarrels : Cond.instanceMethod yX8_quarrels ∈ zT := zT_in 944 (by decide +kernel) (by decide +kernel)
theorem kvX8_quarrels : Cond.instanceMethod yX8_quarrels ∈ zT ∧ Cond.selects yX8_quarrels.cls yX8_quarrels yX8_quarrels ∈ zT := ⟨kiX8_quarrels, zT_in 35 (by decide +kernel) (by decide +kernel)⟩
theorem ckX8_goesRound : zCk yX8_goesRound cX8_goesRound 4 (some .boolean) 3 := ⟨zT_in 933 (by decide +kernel) (by decide +kernel), zT_in 47 (by decide +kernel) (by decide +kernel), by decide +kernel⟩
theorem kiX8_goesRound : Cond.instanceMethod yX8_goesRound ∈ zT := zT_in 932 (by decide +kernel) (by decide +kernel)
theorem kvX8_goesRound : Cond.instanceMethod yX8_goesRound ∈ zT ∧ Cond.selects yX8_goesRound.cls yX8_goesRound yX8_goesRound ∈ zT := ⟨kiX8_goesRound, zT_in 32 (by decide +kernel) (by decide +kernel)⟩
theorem ckX8_isOther : zCk yX8_isOther cX8_isOther 5 (some .boolean) 4 := ⟨zT_in 937 (by decide +kernel) (by decide +kernel), zT_in 47 (by decide +kernel) (by decide +kernel), by decide +kernel⟩
theorem kiX8_isOther : Cond.instanceMethod yX8_isOther ∈ zT := zT_in 936 (by decide +kernel) (by decide +kernel)
theorem kvX8_isOther : Cond.instanceMethod yX8_isOther ∈ zT ∧ Cond.selects yX8_isOther.cls yX8_isOther yX8_isOther ∈ zT := ⟨kiX8_isOther, zT_in 33 (by decide +kernel) (by decide +kernel)⟩
theorem ckX8_give : zCk yX8_give cX8_give 7 (some .int) 3 := ⟨zT_in 929 (by decide +kernel) (by decide +kernel), zT_in 47 (by decide +kernel) (by decide +kernel), by decide +kernel⟩
theorem kiX8_give : Cond.instanceMethod yX8_give ∈ zT := zT_in 927 (by decide +kernel) (by decide +kernel)
theorem kvX8_give : Cond.instanceMethod yX8_give ∈ zT ∧ Cond.selects yX8_give.cls yX8_give yX8_give ∈ zT := ⟨kiX8_give, zT_in 928 (by decide +kernel) (by decide +kernel)⟩
theorem ckX8_season : zCk yX8_season cX8_season 2 (some .int) 0 := ⟨zT_in 953 (by decide +kernel) (by decide +kernel), zT_in 47 (by decide +kernel) (by decide +kernel), by decide +kernel⟩
theorem kiX8_season : Cond.instanceMethod yX8_season ∈ zT := zT_in 951 (by decide +kernel) (by decide +kernel)
theorem kvX8_season : Cond.instanceMethod yX8_season ∈ zT ∧ Cond.selects yX8_season.cls yX8_season yX8_season ∈ zT := ⟨kiX8_season, zT_in 952 (by decide +kernel) (by decide +kernel)⟩
theorem ckX8_dies : zCk yX8_dies cX8_dies 4 (some .boolean) 2 := ⟨zT_in 957 (by decide +kernel) (by decide +kernel), zT_in 47 (by decide +kernel) (by decide +kernel), by decide +kernel⟩
theorem kiX8_dies : Cond.instanceMethod yX8_dies ∈ zT := zT_in 955 (by decide +kernel) (by decide +kernel)
theorem kvX8_dies : Cond.instanceMethod yX8_dies ∈ zT ∧ Cond.selects yX8_dies.cls yX8_dies yX8_dies ∈ zT := ⟨kiX8_dies, zT_in 956 (by decide +kernel) (by decide +kernel)⟩
theorem ckX8_lost : zCk yX8_lost cX8_lost 2 (some .boolean) 1 := ⟨zT_in 961 (by decide +kernel) (by decide +kernel), zT_in 47 (by decide +kernel) (by decide +kernel), by decide +kernel⟩
theorem kiX8_lost : Cond.instanceMethod yX8_lost ∈ zT := zT_in 959 (by decide +kernel) (by decide +kernel)
theorem kvX8_lost : Cond.instanceMethod yX8_lost ∈ zT ∧ Cond.selects yX8_lost.cls yX8_lost yX8_lost ∈ zT := ⟨kiX8_lost, zT_in 960 (by decide +kernel) (by decide +kernel)⟩
theorem ckX8_finds : zCk yX8_finds cX8_finds 3 none 1 := ⟨zT_in 969 (by decide +kernel) (by decide +kernel), zT_in 47 (by decide +kernel) (by decide +kernel), by decide +kernel⟩
theorem kiX8_finds : Cond.instanceMethod yX8_finds ∈ zT := zT_in 968 (by decide +kernel) (by decide +kernel)
theorem kvX8_finds : Cond.instanceMethod yX8_finds ∈ zT ∧ Cond.selects yX8_finds.cls yX8_finds yX8_finds ∈ zT := ⟨kiX8_finds, zT_in 37 (by decide +kernel) (by decide +kernel)⟩
theorem ckX8_canBeAll : zCk yX8_canBeAll cX8_canBeAll 5 (some .boolean) 0 := ⟨zT_in 977 (by decide +kernel) (by decide +kernel), zT_in 47 (by decide +kernel) (by decide +kernel), by decide +kernel⟩
theorem kiX8_canBeAll : Cond.instanceMethod yX8_canBeAll ∈ zT := zT_in 976 (by decide +kernel) (by decide +kernel)
theorem kvX8_canBeAll : Cond.instanceMethod yX8_canBeAll ∈ zT ∧ Cond.selects yX8_canBeAll.cls yX8_canBeAll yX8_canBeAll ∈ zT := ⟨kiX8_canBeAll, zT_in 39 (by decide +kernel) (by decide +kernel)⟩
theorem ckX8_isLess : zCk yX8_isLess cX8_isLess 2 (some .boolean) 0 := ⟨zT_in 973 (by decide +kernel) (by decide +kernel), zT_in 47 (by decide +kernel) (by decide +kernel), by decide +kernel⟩
theorem kiX8_isLess : Cond.instanceMethod yX8_isLess ∈ zT := zT_in 972 (by decide +kernel) (by decide +kernel)
theorem kvX8_isLess : Cond.instanceMethod yX8_isLess ∈ zT ∧ Cond.selects yX8_isLess.cls yX8_isLess yX8_isLess ∈ zT := ⟨kiX8_isLess, zT_in 38 (by decide +kernel) (by decide +kernel)⟩
theorem ckX8_closings : zCk yX8_closings cX8_closings 9 (some .int) 1 := ⟨zT_in 965 (by decide +kernel) (by decide +kernel), zT_in 47 (by decide +kernel) (by decide +kernel), by decide +kernel⟩
theorem kiX8_closings : Cond.instanceMethod yX8_closings ∈ zT := zT_in 963 (by decide +kernel) (by decide +kernel)
theorem kvX8_closings : Cond.instanceMethod yX8_closings ∈ zT ∧ Cond.selects yX8_closings.cls yX8_closings yX8_closings ∈ zT := ⟨kiX8_closings, zT_in 964 (by decide +kernel) (by decide +kernel)⟩
theorem ckX8_closing : zCk yX8_closing cX8_closing 2 (some .int) 1 := ⟨zT_in 981 (by decide +kernel) (by decide +kernel), zT_in 47 (by decide +kernel) (by decide +kernel), by decide +kernel⟩
theorem kiX8_closing : Cond.instanceMethod yX8_closing ∈ zT := zT_in 979 (by decide +kernel) (by decide +kernel)
theorem kvX8_closing : Cond.instanceMethod yX8_closing ∈ zT ∧ Cond.selects yX8_closing.cls yX8_closing yX8_closing ∈ zT := ⟨kiX8_closing, zT_in 980 (by decide +kernel) (by decide +kernel)⟩
theorem ckX8_fars : zCk yX8_fars cX8_fars 6 none 2 := ⟨zT_in 989 (by decide +kernel) (by decide +kernel), zT_in 47 (by decide +kernel) (by decide +kernel), by decide +kernel⟩
theorem kiX8_fars : Cond.instanceMethod yX8_fars ∈ zT := zT_in 988 (by decide +kernel) (by decide +kernel)
theorem kvX8_fars : Cond.instanceMethod yX8_fars ∈ zT ∧ Cond.selects yX8_fars.cls yX8_fars yX8_fars ∈ zT := ⟨kiX8_fars, zT_in 40 (by decide +kernel) (by decide +kernel)⟩
theorem ckX8_soonest : zCk yX8_soonest cX8_soonest 3 (some .int) 2 := ⟨zT_in 985 (by decide +kernel) (by decide +kernel), zT_in 47 (by decide +kernel) (by decide +kernel), by decide +kernel⟩
theorem kiX8_soonest : Cond.instanceMethod yX8_soonest ∈ zT := zT_in 983 (by decide +kernel) (by decide +kernel)
theorem kvX8_soonest : Cond.instanceMethod yX8_soonest ∈ zT ∧ Cond.selects yX8_soonest.cls yX8_soonest yX8_soonest ∈ zT := ⟨kiX8_soonest, zT_in 984 (by decide +kernel) (by decide +kernel)⟩
theorem ckX8_through : zCk yX8_through cX8_through 9 (some .int) 3 := ⟨zT_in 993 (by decide +kernel) (by decide +kernel), zT_in 47 (by decide +kernel) (by decide +kernel), by decide +kernel⟩
theorem kiX8_through : Cond.instanceMethod yX8_through ∈ zT := zT_in 991 (by decide +kernel) (by decide +kernel)
theorem kvX8_through : Cond.instanceMethod yX8_through ∈ zT ∧ Cond.selects yX8_through.cls yX8_through yX8_through ∈ zT := ⟨kiX8_through, zT_in 992 (by decide +kernel) (by decide +kernel)⟩
theorem ckX8_look : zCk yX8_look cX8_look 5 (some .int) 2 := ⟨zT_in 998 (by decide +kernel) (by decide +kernel), zT_in 47 (by decide +kernel) (by decide +kernel), by decide +kernel⟩
theorem kiX8_look : Cond.instanceMethod yX8_look ∈ zT := zT_in 996 (by decide +kernel) (by decide +kernel)
theorem kvX8_look : Cond.instanceMethod yX8_look ∈ zT ∧ Cond.selects yX8_look.cls yX8_look yX8_look ∈ zT := ⟨kiX8_look, zT_in 997 (by decide +kernel) (by decide +kernel)⟩
theorem ckX8_told : zCk yX8_told cX8_told 3 (some .int) 2 := ⟨zT_in 1002 (by decide +kernel) (by decide +kernel), zT_in 47 (by decide +kernel) (by decide +kernel), by decide +kernel⟩
theorem kiX8_told : Cond.instanceMethod yX8_told ∈ zT := zT_in 1000 (by decide +kernel) (by decide +kernel)
theorem kvX8_told : Cond.instanceMethod yX8_told ∈ zT ∧ Cond.selects yX8_told.cls yX8_told yX8_told ∈ zT := ⟨kiX8_told, zT_in 1001 (by decide +kernel) (by decide +kernel)⟩
theorem ckX8_debt : zCk yX8_debt cX8_debt 3 (some .int) 2 := ⟨zT_in 1006 (by decide +kernel) (by decide +kernel), zT_in 47 (by decide +kernel) (by decide +kernel), by decide +kernel⟩
theorem kiX8_debt : Cond.instanceMethod yX8_debt ∈ zT := zT_in 1004 (by decide +kernel) (by decide +kernel)
theorem kvX8_debt : Cond.instanceMethod yX8_debt ∈ zT ∧ Cond.selects yX8_debt.cls yX8_debt yX8_debt ∈ zT := ⟨kiX8_debt, zT_in 1005 (by decide +kernel) (by decide +kernel)⟩
theorem ckX8_quarrel : zCk yX8_quarrel cX8_quarrel 3 (some .int) 2 := ⟨zT_in 1010 (by decide +kernel) (by decide +kernel), zT_in 47 (by decide +kernel) (by decide +kernel), by decide +kernel⟩
theorem kiX8_quarrel : Cond.instanceMethod yX8_quarrel ∈ zT := zT_in 1008 (by decide +kernel) (by decide +kernel)
theorem kvX8_quarrel : Cond.instanceMethod yX8_quarrel ∈ zT ∧ Cond.selects yX8_quarrel.cls yX8_quarrel yX8_quarrel ∈ zT := ⟨kiX8_quarrel, zT_in 1009 (by decide +kernel) (by decide +kernel)⟩
theorem ckX8_count : zCk yX8_count cX8_count 4 (some .int) 1 := ⟨zT_in 1014 (by decide +kernel) (by decide +kernel), zT_in 47 (by decide +kernel) (by decide +kernel), by decide +kernel⟩
theorem kiX8_count : Cond.instanceMethod yX8_count ∈ zT := zT_in 1012 (by decide +kernel) (by decide +kernel)
theorem kvX8_count : Cond.instanceMethod yX8_count ∈ zT ∧ Cond.selects yX8_count.cls yX8_count yX8_count ∈ zT := ⟨kiX8_count, zT_in 1013 (by decide +kernel) (by decide +kernel)⟩
theorem ckJ6_bitCount_0f7a4 : zCk yJ6_bitCount_0f7a4 cJ6_bitCount_0f7a4 1 (some .int) 1 := ⟨zT_in 674 (by decide +kernel) (by decide +kernel), zT_in 58 (by decide +kernel) (by decide +kernel), by decide +kernel⟩
theorem ksJ6_bitCount_0f7a4 : Cond.static yJ6_bitCount_0f7a4 ∈ zT := zT_in 673 (by decide +kernel) (by decide +kernel)
theorem ckJ9_abs_0f7a4 : zCk yJ9_abs_0f7a4 cJ9_abs_0f7a4 1 (some .int) 1 := ⟨zT_in 349 (by decide +kernel) (by decide +kernel), zT_in 54 (by decide +kernel) (by decide +kernel), by decide +kernel⟩
theorem ksJ9_abs_0f7a4 : Cond.static yJ9_abs_0f7a4 ∈ zT := zT_in 348 (by decide +kernel) (by decide +kernel)
theorem ckJ9_max_7cf53 : zCk yJ9_max_7cf53 cJ9_max_7cf53 2 (some .int) 2 := ⟨zT_in 625 (by decide +kernel) (by decide +kernel), zT_in 54 (by decide +kernel) (by decide +kernel), by decide +kernel⟩
theorem ksJ9_max_7cf53 : Cond.static yJ9_max_7cf53 ∈ zT := zT_in 624 (by decide +kernel) (by decide +kernel)
theorem ckJ9_min_7cf53 : zCk yJ9_min_7cf53 cJ9_min_7cf53 2 (some .int) 2 := ⟨zT_in 352 (by decide +kernel) (by decide +kernel), zT_in 54 (by decide +kernel) (by decide +kernel), by decide +kernel⟩
theorem ksJ9_min_7cf53 : Cond.static yJ9_min_7cf53 ∈ zT := zT_in 351 (by decide +kernel) (by decide +kernel)
theorem ckJ0_length_8abf5 : zCk yJ0_length_8abf5 cJ0_length_8abf5 1 (some .int) 0 := ⟨zT_in 237 (by decide +kernel) (by decide +kernel), zT_in 49 (by decide +kernel) (by decide +kernel), by decide +kernel⟩
theorem kiJ0_length_8abf5 : Cond.instanceMethod yJ0_length_8abf5 ∈ zT := zT_in 235 (by decide +kernel) (by decide +kernel)
theorem kvJ0_length_8abf5 : Cond.instanceMethod yJ0_length_8abf5 ∈ zT ∧ Cond.selects yJ0_length_8abf5.cls yJ0_length_8abf5 yJ0_length_8abf5 ∈ zT := ⟨kiJ0_length_8abf5, zT_in 236 (by decide +kernel) (by decide +kernel)⟩
theorem ckJ0_charAt_5068e : zCk yJ0_charAt_5068e cJ0_charAt_5068e 2 (some .char) 1 := ⟨zT_in 247 (by decide +kernel) (by decide +kernel), zT_in 49 (by decide +kernel) (by decide +kernel), by decide +kernel⟩
theorem kiJ0_charAt_5068e : Cond.instanceMethod yJ0_charAt_5068e ∈ zT := zT_in 245 (by decide +kernel) (by decide +kernel)
theorem kvJ0_charAt_5068e : Cond.instanceMethod yJ0_charAt_5068e ∈ zT ∧ Cond.selects yJ0_charAt_5068e.cls yJ0_charAt_5068e yJ0_charAt_5068e ∈ zT := ⟨kiJ0_charAt_5068e, zT_in 246 (by decide +kernel) (by decide +kernel)⟩
theorem ckJ0_coder_7d493 : zCk yJ0_coder_7d493 cJ0_coder_7d493 1 (some .byte) 0 := ⟨zT_in 241 (by decide +kernel) (by decide +kernel), zT_in 49 (by decide +kernel) (by decide +kernel), by decide +kernel⟩
theorem kiJ0_coder_7d493 : Cond.instanceMethod yJ0_coder_7d493 ∈ zT := zT_in 239 (by decide +kernel) (by decide +kernel)
theorem kvJ0_coder_7d493 : Cond.instanceMethod yJ0_coder_7d493 ∈ zT ∧ Cond.selects yJ0_coder_7d493.cls yJ0_coder_7d493 yJ0_coder_7d493 ∈ zT := ⟨kiJ0_coder_7d493, zT_in 240 (by decide +kernel) (by decide +kernel)⟩
theorem ckJ0_isLatin1_aae02 : zCk yJ0_isLatin1_aae02 cJ0_isLatin1_aae02 1 (some .boolean) 0 := ⟨zT_in 251 (by decide +kernel) (by decide +kernel), zT_in 49 (by decide +kernel) (by decide +kernel), by decide +kernel⟩
theorem kiJ0_isLatin1_aae02 : Cond.instanceMethod yJ0_isLatin1_aae02 ∈ zT := zT_in 249 (by decide +kernel) (by decide +kernel)
theorem kvJ0_isLatin1_aae02 : Cond.instanceMethod yJ0_isLatin1_aae02 ∈ zT ∧ Cond.selects yJ0_isLatin1_aae02.cls yJ0_isLatin1_aae02 yJ0_isLatin1_aae02 ∈ zT := ⟨kiJ0_isLatin1_aae02, zT_in 250 (by decide +kernel) (by decide +kernel)⟩
theorem ckJ0_checkIndex_df160 : zCk yJ0_checkIndex_df160 cJ0_checkIndex_df160 2 none 2 := ⟨zT_in 257 (by decide +kernel) (by decide +kernel), zT_in 49 (by decide +kernel) (by decide +kernel), by decide +kernel⟩
theorem ksJ0_checkIndex_df160 : Cond.static yJ0_checkIndex_df160 ∈ zT := zT_in 256 (by decide +kernel) (by decide +kernel)
theorem ckJ1_charAt_3b067 : zCk yJ1_charAt_3b067 cJ1_charAt_3b067 2 (some .char) 2 := ⟨zT_in 254 (by decide +kernel) (by decide +kernel), zT_in 50 (by decide +kernel) (by decide +kernel), by decide +kernel⟩
theorem ksJ1_charAt_3b067 : Cond.static yJ1_charAt_3b067 ∈ zT := zT_in 253 (by decide +kernel) (by decide +kernel)
theorem ckJ2_getChar_3b067 : zCk yJ2_getChar_3b067 cJ2_getChar_3b067 2 (some .char) 2 := ⟨zT_in 275 (by decide +kernel) (by decide +kernel), zT_in 52 (by decide +kernel) (by decide +kernel), by decide +kernel⟩
theorem ksJ2_getChar_3b067 : Cond.static yJ2_getChar_3b067 ∈ zT := zT_in 274 (by decide +kernel) (by decide +kernel)
theorem ckJ2_length_9d52b : zCk yJ2_length_9d52b cJ2_length_9d52b 1 (some .int) 1 := ⟨zT_in 271 (by decide +kernel) (by decide +kernel), zT_in 52 (by decide +kernel) (by decide +kernel), by decide +kernel⟩
theorem ksJ2_length_9d52b : Cond.static yJ2_length_9d52b ∈ zT := zT_in 270 (by decide +kernel) (by decide +kernel)
theorem ckJ2_charAt_3b067 : zCk yJ2_charAt_3b067 cJ2_charAt_3b067 2 (some .char) 2 := ⟨zT_in 265 (by decide +kernel) (by decide +kernel), zT_in 52 (by decide +kernel) (by decide +kernel), by decide +kernel⟩
theorem ksJ2_charAt_3b067 : Cond.static yJ2_charAt_3b067 ∈ zT := zT_in 264 (by decide +kernel) (by decide +kernel)
theorem ckJ2_checkIndex_2214a : zCk yJ2_checkIndex_2214a cJ2_checkIndex_2214a 2 none 2 := ⟨zT_in 268 (by decide +kernel) (by decide +kernel), zT_in 52 (by decide +kernel) (by decide +kernel), by decide +kernel⟩
theorem ksJ2_checkIndex_2214a : Cond.static yJ2_checkIndex_2214a ∈ zT := zT_in 267 (by decide +kernel) (by decide +kernel)
theorem ckJ7_fill_53178 : zCk yJ7_fill_53178 cJ7_fill_53178 4 none 2 := ⟨zT_in 610 (by decide +kernel) (by decide +kernel), zT_in 57 (by decide +kernel) (by decide +kernel), by decide +kernel⟩
theorem ksJ7_fill_53178 : Cond.static yJ7_fill_53178 ∈ zT := zT_in 609 (by decide +kernel) (by decide +kernel)
theorem ckJ3_checkIndex_8e157 : zCk yJ3_checkIndex_8e157 cJ3_checkIndex_8e157 3 (some .int) 3 := ⟨zT_in 262 (by decide +kernel) (by decide +kernel), zT_in 51 (by decide +kernel) (by decide +kernel), by decide +kernel⟩
theorem ksJ3_checkIndex_8e157 : Cond.static yJ3_checkIndex_8e157 ∈ zT := zT_in 261 (by decide +kernel) (by decide +kernel)
theorem kobj : Cond.instanceMethod objectInit ∈ zT ∧ Cond.code objectInit ⟨#[0xb1]⟩ 1 none ∈ zT := ⟨zT_in 65 (by decide +kernel) (by decide +kernel), zT_in 66 (by decide +kernel) (by decide +kernel)⟩
end
