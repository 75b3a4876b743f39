-- ===== PART A: goes FIRST, ahead of the names: the tables' words, and 'selects' of the private methods out of them =====
/-- a private method of a class that the tables say can be made, by its rows of tables_1 -/
def lw_okq (q : MethodName × Nat) : Prop := (q.1.cls ≠ "java/lang/invoke/MethodHandle" ∧ q.1.cls ≠ "java/lang/invoke/VarHandle") ∧ Cond.instantiable q.1.cls q.2 ∈ tables_1 ∧ Cond.privateMethod q.1 ∈ tables_1 ∧ Cond.instanceMethod q.1 ∈ tables_1
theorem lw_p0 : lw_okq (⟨"ClothMarket", "refuse", "(I)I"⟩, 11) := ⟨⟨by decide +kernel, by decide +kernel⟩, List.mem_of_getElem? (i := 13) (by decide +kernel), List.mem_of_getElem? (i := 234) (by decide +kernel), List.mem_of_getElem? (i := 235) (by decide +kernel)⟩
theorem lw_p1 : lw_okq (⟨"ClothMarket", "missingPlace", "(LClothMarket$Strip;I)I"⟩, 11) := ⟨⟨by decide +kernel, by decide +kernel⟩, List.mem_of_getElem? (i := 13) (by decide +kernel), List.mem_of_getElem? (i := 249) (by decide +kernel), List.mem_of_getElem? (i := 250) (by decide +kernel)⟩
theorem lw_p2 : lw_okq (⟨"ClothMarket", "tell", "(I)I"⟩, 11) := ⟨⟨by decide +kernel, by decide +kernel⟩, List.mem_of_getElem? (i := 13) (by decide +kernel), List.mem_of_getElem? (i := 270) (by decide +kernel), List.mem_of_getElem? (i := 271) (by decide +kernel)⟩
theorem lw_p3 : lw_okq (⟨"ClothMarket$Reader", "skipBlanks", "()V"⟩, 4) := ⟨⟨by decide +kernel, by decide +kernel⟩, List.mem_of_getElem? (i := 110) (by decide +kernel), List.mem_of_getElem? (i := 335) (by decide +kernel), List.mem_of_getElem? (i := 336) (by decide +kernel)⟩
theorem lw_p4 : lw_okq (⟨"ClothMarket$Reader", "take", "(II)I"⟩, 4) := ⟨⟨by decide +kernel, by decide +kernel⟩, List.mem_of_getElem? (i := 110) (by decide +kernel), List.mem_of_getElem? (i := 340) (by decide +kernel), List.mem_of_getElem? (i := 341) (by decide +kernel)⟩
theorem lw_p5 : lw_okq (⟨"ClothMarket$Reader", "readItem", "()V"⟩, 4) := ⟨⟨by decide +kernel, by decide +kernel⟩, List.mem_of_getElem? (i := 110) (by decide +kernel), List.mem_of_getElem? (i := 345) (by decide +kernel), List.mem_of_getElem? (i := 346) (by decide +kernel)⟩
theorem lw_p6 : lw_okq (⟨"ClothMarket$Reader", "readStall", "()V"⟩, 4) := ⟨⟨by decide +kernel, by decide +kernel⟩, List.mem_of_getElem? (i := 110) (by decide +kernel), List.mem_of_getElem? (i := 354) (by decide +kernel), List.mem_of_getElem? (i := 355) (by decide +kernel)⟩
theorem lw_p7 : lw_okq (⟨"ClothMarket$Reader", "readBuyer", "(I)V"⟩, 4) := ⟨⟨by decide +kernel, by decide +kernel⟩, List.mem_of_getElem? (i := 110) (by decide +kernel), List.mem_of_getElem? (i := 362) (by decide +kernel), List.mem_of_getElem? (i := 363) (by decide +kernel)⟩
theorem lw_p8 : lw_okq (⟨"ClothMarket$Market", "slackBehind", "(II)I"⟩, 14) := ⟨⟨by decide +kernel, by decide +kernel⟩, List.mem_of_getElem? (i := 23) (by decide +kernel), List.mem_of_getElem? (i := 370) (by decide +kernel), List.mem_of_getElem? (i := 371) (by decide +kernel)⟩
theorem lw_p9 : lw_okq (⟨"ClothMarket$Reader", "takeWant", "()I"⟩, 4) := ⟨⟨by decide +kernel, by decide +kernel⟩, List.mem_of_getElem? (i := 110) (by decide +kernel), List.mem_of_getElem? (i := 374) (by decide +kernel), List.mem_of_getElem? (i := 375) (by decide +kernel)⟩
theorem lw_p10 : lw_okq (⟨"ClothMarket$Market", "wayToNearest", "(II)I"⟩, 14) := ⟨⟨by decide +kernel, by decide +kernel⟩, List.mem_of_getElem? (i := 23) (by decide +kernel), List.mem_of_getElem? (i := 399) (by decide +kernel), List.mem_of_getElem? (i := 400) (by decide +kernel)⟩
theorem lw_p11 : lw_okq (⟨"ClothMarket$Market", "nearestStall", "(II)I"⟩, 14) := ⟨⟨by decide +kernel, by decide +kernel⟩, List.mem_of_getElem? (i := 23) (by decide +kernel), List.mem_of_getElem? (i := 403) (by decide +kernel), List.mem_of_getElem? (i := 404) (by decide +kernel)⟩
theorem lw_p12 : lw_okq (⟨"ClothMarket$Market", "isNearer", "(III)Z"⟩, 14) := ⟨⟨by decide +kernel, by decide +kernel⟩, List.mem_of_getElem? (i := 23) (by decide +kernel), List.mem_of_getElem? (i := 410) (by decide +kernel), List.mem_of_getElem? (i := 411) (by decide +kernel)⟩
theorem lw_p13 : lw_okq (⟨"ClothMarket", "isBuyer", "(I)Z"⟩, 11) := ⟨⟨by decide +kernel, by decide +kernel⟩, List.mem_of_getElem? (i := 13) (by decide +kernel), List.mem_of_getElem? (i := 426) (by decide +kernel), List.mem_of_getElem? (i := 427) (by decide +kernel)⟩
theorem lw_p14 : lw_okq (⟨"ClothMarket", "isStall", "(I)Z"⟩, 11) := ⟨⟨by decide +kernel, by decide +kernel⟩, List.mem_of_getElem? (i := 13) (by decide +kernel), List.mem_of_getElem? (i := 438) (by decide +kernel), List.mem_of_getElem? (i := 439) (by decide +kernel)⟩
theorem lw_p15 : lw_okq (⟨"ClothMarket$Market", "firstTaken", "(II)I"⟩, 14) := ⟨⟨by decide +kernel, by decide +kernel⟩, List.mem_of_getElem? (i := 23) (by decide +kernel), List.mem_of_getElem? (i := 458) (by decide +kernel), List.mem_of_getElem? (i := 459) (by decide +kernel)⟩
def lw_privs_1 : List (MethodName × Nat) := [(⟨"ClothMarket", "refuse", "(I)I"⟩, 11), (⟨"ClothMarket", "missingPlace", "(LClothMarket$Strip;I)I"⟩, 11), (⟨"ClothMarket", "tell", "(I)I"⟩, 11), (⟨"ClothMarket$Reader", "skipBlanks", "()V"⟩, 4), (⟨"ClothMarket$Reader", "take", "(II)I"⟩, 4), (⟨"ClothMarket$Reader", "readItem", "()V"⟩, 4), (⟨"ClothMarket$Reader", "readStall", "()V"⟩, 4), (⟨"ClothMarket$Reader", "readBuyer", "(I)V"⟩, 4), (⟨"ClothMarket$Market", "slackBehind", "(II)I"⟩, 14), (⟨"ClothMarket$Reader", "takeWant", "()I"⟩, 4), (⟨"ClothMarket$Market", "wayToNearest", "(II)I"⟩, 14), (⟨"ClothMarket$Market", "nearestStall", "(II)I"⟩, 14), (⟨"ClothMarket$Market", "isNearer", "(III)Z"⟩, 14), (⟨"ClothMarket", "isBuyer", "(I)Z"⟩, 11), (⟨"ClothMarket", "isStall", "(I)Z"⟩, 11), (⟨"ClothMarket$Market", "firstTaken", "(II)I"⟩, 14)]
theorem lw_r1 : ∀ q ∈ lw_privs_1, lw_okq q := List.forall_mem_cons.mpr ⟨lw_p0, List.forall_mem_cons.mpr ⟨lw_p1, List.forall_mem_cons.mpr ⟨lw_p2, List.forall_mem_cons.mpr ⟨lw_p3, List.forall_mem_cons.mpr ⟨lw_p4, List.forall_mem_cons.mpr ⟨lw_p5, List.forall_mem_cons.mpr ⟨lw_p6, List.forall_mem_cons.mpr ⟨lw_p7, List.forall_mem_cons.mpr ⟨lw_p8, List.forall_mem_cons.mpr ⟨lw_p9, List.forall_mem_cons.mpr ⟨lw_p10, List.forall_mem_cons.mpr ⟨lw_p11, List.forall_mem_cons.mpr ⟨lw_p12, List.forall_mem_cons.mpr ⟨lw_p13, List.forall_mem_cons.mpr ⟨lw_p14, List.forall_mem_cons.mpr ⟨lw_p15, fun _ h => absurd h List.not_mem_nil⟩⟩⟩⟩⟩⟩⟩⟩⟩⟩⟩⟩⟩⟩⟩⟩
theorem lw_p16 : lw_okq (⟨"ClothMarket$Market", "holds", "(III)Z"⟩, 14) := ⟨⟨by decide +kernel, by decide +kernel⟩, List.mem_of_getElem? (i := 23) (by decide +kernel), List.mem_of_getElem? (i := 462) (by decide +kernel), List.mem_of_getElem? (i := 463) (by decide +kernel)⟩
theorem lw_p17 : lw_okq (⟨"ClothMarket$Market", "isRich", "(I)Z"⟩, 14) := ⟨⟨by decide +kernel, by decide +kernel⟩, List.mem_of_getElem? (i := 23) (by decide +kernel), List.mem_of_getElem? (i := 466) (by decide +kernel), List.mem_of_getElem? (i := 467) (by decide +kernel)⟩
theorem lw_p18 : lw_okq (⟨"ClothMarket$Market", "lastTaken", "(II)I"⟩, 14) := ⟨⟨by decide +kernel, by decide +kernel⟩, List.mem_of_getElem? (i := 23) (by decide +kernel), List.mem_of_getElem? (i := 470) (by decide +kernel), List.mem_of_getElem? (i := 471) (by decide +kernel)⟩
theorem lw_p19 : lw_okq (⟨"ClothMarket$Market", "canGo", "(III)Z"⟩, 14) := ⟨⟨by decide +kernel, by decide +kernel⟩, List.mem_of_getElem? (i := 23) (by decide +kernel), List.mem_of_getElem? (i := 474) (by decide +kernel), List.mem_of_getElem? (i := 475) (by decide +kernel)⟩
theorem lw_p20 : lw_okq (⟨"ClothMarket$Market", "pull", "(II)V"⟩, 14) := ⟨⟨by decide +kernel, by decide +kernel⟩, List.mem_of_getElem? (i := 23) (by decide +kernel), List.mem_of_getElem? (i := 522) (by decide +kernel), List.mem_of_getElem? (i := 523) (by decide +kernel)⟩
theorem lw_p21 : lw_okq (⟨"ClothMarket$Market", "walk", "(II)V"⟩, 14) := ⟨⟨by decide +kernel, by decide +kernel⟩, List.mem_of_getElem? (i := 23) (by decide +kernel), List.mem_of_getElem? (i := 526) (by decide +kernel), List.mem_of_getElem? (i := 527) (by decide +kernel)⟩
theorem lw_p22 : lw_okq (⟨"ClothMarket$Market", "sell", "(I)I"⟩, 14) := ⟨⟨by decide +kernel, by decide +kernel⟩, List.mem_of_getElem? (i := 23) (by decide +kernel), List.mem_of_getElem? (i := 535) (by decide +kernel), List.mem_of_getElem? (i := 536) (by decide +kernel)⟩
theorem lw_p23 : lw_okq (⟨"ClothMarket$Market", "isShaded", "(II)Z"⟩, 14) := ⟨⟨by decide +kernel, by decide +kernel⟩, List.mem_of_getElem? (i := 23) (by decide +kernel), List.mem_of_getElem? (i := 539) (by decide +kernel), List.mem_of_getElem? (i := 540) (by decide +kernel)⟩
theorem lw_p24 : lw_okq (⟨"ClothMarket", "isKept", "(I)Z"⟩, 11) := ⟨⟨by decide +kernel, by decide +kernel⟩, List.mem_of_getElem? (i := 13) (by decide +kernel), List.mem_of_getElem? (i := 593) (by decide +kernel), List.mem_of_getElem? (i := 594) (by decide +kernel)⟩
theorem lw_p25 : lw_okq (⟨"ClothMarket$Forecast", "pass", "(I)I"⟩, 4) := ⟨⟨by decide +kernel, by decide +kernel⟩, List.mem_of_getElem? (i := 145) (by decide +kernel), List.mem_of_getElem? (i := 616) (by decide +kernel), List.mem_of_getElem? (i := 617) (by decide +kernel)⟩
theorem lw_p26 : lw_okq (⟨"ClothMarket$Forecast", "shareWants", "(LClothMarket$Market;)V"⟩, 4) := ⟨⟨by decide +kernel, by decide +kernel⟩, List.mem_of_getElem? (i := 145) (by decide +kernel), List.mem_of_getElem? (i := 662) (by decide +kernel), List.mem_of_getElem? (i := 663) (by decide +kernel)⟩
theorem lw_p27 : lw_okq (⟨"ClothMarket$Forecast", "layOrder", "(LClothMarket$Strip;)V"⟩, 4) := ⟨⟨by decide +kernel, by decide +kernel⟩, List.mem_of_getElem? (i := 145) (by decide +kernel), List.mem_of_getElem? (i := 666) (by decide +kernel), List.mem_of_getElem? (i := 667) (by decide +kernel)⟩
theorem lw_p28 : lw_okq (⟨"ClothMarket$Forecast", "nextOrder", "(I)Z"⟩, 4) := ⟨⟨by decide +kernel, by decide +kernel⟩, List.mem_of_getElem? (i := 145) (by decide +kernel), List.mem_of_getElem? (i := 671) (by decide +kernel), List.mem_of_getElem? (i := 672) (by decide +kernel)⟩
theorem lw_p29 : lw_okq (⟨"ClothMarket$Forecast", "swap", "(II)V"⟩, 4) := ⟨⟨by decide +kernel, by decide +kernel⟩, List.mem_of_getElem? (i := 145) (by decide +kernel), List.mem_of_getElem? (i := 675) (by decide +kernel), List.mem_of_getElem? (i := 676) (by decide +kernel)⟩
theorem lw_p30 : lw_okq (⟨"ClothMarket$Forecast", "whoBought", "(LClothMarket$Market;)I"⟩, 4) := ⟨⟨by decide +kernel, by decide +kernel⟩, List.mem_of_getElem? (i := 145) (by decide +kernel), List.mem_of_getElem? (i := 696) (by decide +kernel), List.mem_of_getElem? (i := 697) (by decide +kernel)⟩
theorem lw_p31 : lw_okq (⟨"ClothMarket$Market", "doHold", "(I)Z"⟩, 14) := ⟨⟨by decide +kernel, by decide +kernel⟩, List.mem_of_getElem? (i := 23) (by decide +kernel), List.mem_of_getElem? (i := 715) (by decide +kernel), List.mem_of_getElem? (i := 716) (by decide +kernel)⟩
def lw_privs_2 : List (MethodName × Nat) := [(⟨"ClothMarket$Market", "holds", "(III)Z"⟩, 14), (⟨"ClothMarket$Market", "isRich", "(I)Z"⟩, 14), (⟨"ClothMarket$Market", "lastTaken", "(II)I"⟩, 14), (⟨"ClothMarket$Market", "canGo", "(III)Z"⟩, 14), (⟨"ClothMarket$Market", "pull", "(II)V"⟩, 14), (⟨"ClothMarket$Market", "walk", "(II)V"⟩, 14), (⟨"ClothMarket$Market", "sell", "(I)I"⟩, 14), (⟨"ClothMarket$Market", "isShaded", "(II)Z"⟩, 14), (⟨"ClothMarket", "isKept", "(I)Z"⟩, 11), (⟨"ClothMarket$Forecast", "pass", "(I)I"⟩, 4), (⟨"ClothMarket$Forecast", "shareWants", "(LClothMarket$Market;)V"⟩, 4), (⟨"ClothMarket$Forecast", "layOrder", "(LClothMarket$Strip;)V"⟩, 4), (⟨"ClothMarket$Forecast", "nextOrder", "(I)Z"⟩, 4), (⟨"ClothMarket$Forecast", "swap", "(II)V"⟩, 4), (⟨"ClothMarket$Forecast", "whoBought", "(LClothMarket$Market;)I"⟩, 4), (⟨"ClothMarket$Market", "doHold", "(I)Z"⟩, 14)]
theorem lw_r2 : ∀ q ∈ lw_privs_2, lw_okq q := List.forall_mem_cons.mpr ⟨lw_p16, List.forall_mem_cons.mpr ⟨lw_p17, List.forall_mem_cons.mpr ⟨lw_p18, List.forall_mem_cons.mpr ⟨lw_p19, List.forall_mem_cons.mpr ⟨lw_p20, List.forall_mem_cons.mpr ⟨lw_p21, List.forall_mem_cons.mpr ⟨lw_p22, List.forall_mem_cons.mpr ⟨lw_p23, List.forall_mem_cons.mpr ⟨lw_p24, List.forall_mem_cons.mpr ⟨lw_p25, List.forall_mem_cons.mpr ⟨lw_p26, List.forall_mem_cons.mpr ⟨lw_p27, List.forall_mem_cons.mpr ⟨lw_p28, List.forall_mem_cons.mpr ⟨lw_p29, List.forall_mem_cons.mpr ⟨lw_p30, List.forall_mem_cons.mpr ⟨lw_p31, fun _ h => absurd h List.not_mem_nil⟩⟩⟩⟩⟩⟩⟩⟩⟩⟩⟩⟩⟩⟩⟩⟩
theorem lw_p32 : lw_okq (⟨"ClothMarket", "isSetOfBuyers", "(I)Z"⟩, 11) := ⟨⟨by decide +kernel, by decide +kernel⟩, List.mem_of_getElem? (i := 13) (by decide +kernel), List.mem_of_getElem? (i := 734) (by decide +kernel), List.mem_of_getElem? (i := 735) (by decide +kernel)⟩
theorem lw_p33 : lw_okq (⟨"ClothMarket", "refuseTrack", "(ILClothMarket$Strip;)I"⟩, 11) := ⟨⟨by decide +kernel, by decide +kernel⟩, List.mem_of_getElem? (i := 13) (by decide +kernel), List.mem_of_getElem? (i := 738) (by decide +kernel), List.mem_of_getElem? (i := 739) (by decide +kernel)⟩
theorem lw_p34 : lw_okq (⟨"ClothMarket$Tracker", "giveWants", "(II)V"⟩, 4) := ⟨⟨by decide +kernel, by decide +kernel⟩, List.mem_of_getElem? (i := 168) (by decide +kernel), List.mem_of_getElem? (i := 752) (by decide +kernel), List.mem_of_getElem? (i := 753) (by decide +kernel)⟩
theorem lw_p35 : lw_okq (⟨"ClothMarket$Tracker", "isAsSeen", "(LClothMarket$Strip;)Z"⟩, 4) := ⟨⟨by decide +kernel, by decide +kernel⟩, List.mem_of_getElem? (i := 168) (by decide +kernel), List.mem_of_getElem? (i := 757) (by decide +kernel), List.mem_of_getElem? (i := 758) (by decide +kernel)⟩
theorem lw_p36 : lw_okq (⟨"ClothMarket$Tracker", "noteWants", "(II)V"⟩, 4) := ⟨⟨by decide +kernel, by decide +kernel⟩, List.mem_of_getElem? (i := 168) (by decide +kernel), List.mem_of_getElem? (i := 762) (by decide +kernel), List.mem_of_getElem? (i := 763) (by decide +kernel)⟩
theorem lw_p37 : lw_okq (⟨"ClothMarket", "numberOf", "(I)I"⟩, 11) := ⟨⟨by decide +kernel, by decide +kernel⟩, List.mem_of_getElem? (i := 13) (by decide +kernel), List.mem_of_getElem? (i := 810) (by decide +kernel), List.mem_of_getElem? (i := 811) (by decide +kernel)⟩
theorem lw_p38 : lw_okq (⟨"ClothMarket", "howManyKept", "()I"⟩, 11) := ⟨⟨by decide +kernel, by decide +kernel⟩, List.mem_of_getElem? (i := 13) (by decide +kernel), List.mem_of_getElem? (i := 819) (by decide +kernel), List.mem_of_getElem? (i := 820) (by decide +kernel)⟩
theorem lw_p39 : lw_okq (⟨"ClothMarketModel", "meet", "(I)I"⟩, 44) := ⟨⟨by decide +kernel, by decide +kernel⟩, List.mem_of_getElem? (i := 853) (by decide +kernel), List.mem_of_getElem? (i := 1002) (by decide +kernel), List.mem_of_getElem? (i := 1003) (by decide +kernel)⟩
theorem lw_p40 : lw_okq (⟨"ClothMarketModel", "setRow", "(III)V"⟩, 44) := ⟨⟨by decide +kernel, by decide +kernel⟩, List.mem_of_getElem? (i := 853) (by decide +kernel), List.mem_of_getElem? (i := 1006) (by decide +kernel), List.mem_of_getElem? (i := 1007) (by decide +kernel)⟩
theorem lw_p41 : lw_okq (⟨"ClothMarketModel", "askedRow", "(I)I"⟩, 44) := ⟨⟨by decide +kernel, by decide +kernel⟩, List.mem_of_getElem? (i := 853) (by decide +kernel), List.mem_of_getElem? (i := 1014) (by decide +kernel), List.mem_of_getElem? (i := 1015) (by decide +kernel)⟩
theorem lw_p42 : lw_okq (⟨"ClothMarketModel", "rowAt", "(II)I"⟩, 44) := ⟨⟨by decide +kernel, by decide +kernel⟩, List.mem_of_getElem? (i := 853) (by decide +kernel), List.mem_of_getElem? (i := 1018) (by decide +kernel), List.mem_of_getElem? (i := 1019) (by decide +kernel)⟩
theorem lw_p43 : lw_okq (⟨"ClothMarketModel", "ask", "(II)I"⟩, 44) := ⟨⟨by decide +kernel, by decide +kernel⟩, List.mem_of_getElem? (i := 853) (by decide +kernel), List.mem_of_getElem? (i := 1022) (by decide +kernel), List.mem_of_getElem? (i := 1023) (by decide +kernel)⟩
theorem lw_p44 : lw_okq (⟨"ClothMarketModel", "askedText", "(I)I"⟩, 44) := ⟨⟨by decide +kernel, by decide +kernel⟩, List.mem_of_getElem? (i := 853) (by decide +kernel), List.mem_of_getElem? (i := 1054) (by decide +kernel), List.mem_of_getElem? (i := 1055) (by decide +kernel)⟩
theorem lw_p45 : lw_okq (⟨"ClothMarketModel", "goesOn", "(I)I"⟩, 44) := ⟨⟨by decide +kernel, by decide +kernel⟩, List.mem_of_getElem? (i := 853) (by decide +kernel), List.mem_of_getElem? (i := 1062) (by decide +kernel), List.mem_of_getElem? (i := 1063) (by decide +kernel)⟩
theorem lw_p46 : lw_okq (⟨"ClothMarketModel", "here", "(I)I"⟩, 44) := ⟨⟨by decide +kernel, by decide +kernel⟩, List.mem_of_getElem? (i := 853) (by decide +kernel), List.mem_of_getElem? (i := 1066) (by decide +kernel), List.mem_of_getElem? (i := 1067) (by decide +kernel)⟩
theorem lw_p47 : lw_okq (⟨"ClothMarketModel", "readsHead", "(I)Z"⟩, 44) := ⟨⟨by decide +kernel, by decide +kernel⟩, List.mem_of_getElem? (i := 853) (by decide +kernel), List.mem_of_getElem? (i := 1070) (by decide +kernel), List.mem_of_getElem? (i := 1071) (by decide +kernel)⟩
def lw_privs_3 : List (MethodName × Nat) := [(⟨"ClothMarket", "isSetOfBuyers", "(I)Z"⟩, 11), (⟨"ClothMarket", "refuseTrack", "(ILClothMarket$Strip;)I"⟩, 11), (⟨"ClothMarket$Tracker", "giveWants", "(II)V"⟩, 4), (⟨"ClothMarket$Tracker", "isAsSeen", "(LClothMarket$Strip;)Z"⟩, 4), (⟨"ClothMarket$Tracker", "noteWants", "(II)V"⟩, 4), (⟨"ClothMarket", "numberOf", "(I)I"⟩, 11), (⟨"ClothMarket", "howManyKept", "()I"⟩, 11), (⟨"ClothMarketModel", "meet", "(I)I"⟩, 44), (⟨"ClothMarketModel", "setRow", "(III)V"⟩, 44), (⟨"ClothMarketModel", "askedRow", "(I)I"⟩, 44), (⟨"ClothMarketModel", "rowAt", "(II)I"⟩, 44), (⟨"ClothMarketModel", "ask", "(II)I"⟩, 44), (⟨"ClothMarketModel", "askedText", "(I)I"⟩, 44), (⟨"ClothMarketModel", "goesOn", "(I)I"⟩, 44), (⟨"ClothMarketModel", "here", "(I)I"⟩, 44), (⟨"ClothMarketModel", "readsHead", "(I)Z"⟩, 44)]
theorem lw_r3 : ∀ q ∈ lw_privs_3, lw_okq q := List.forall_mem_cons.mpr ⟨lw_p32, List.forall_mem_cons.mpr ⟨lw_p33, List.forall_mem_cons.mpr ⟨lw_p34, List.forall_mem_cons.mpr ⟨lw_p35, List.forall_mem_cons.mpr ⟨lw_p36, List.forall_mem_cons.mpr ⟨lw_p37, List.forall_mem_cons.mpr ⟨lw_p38, List.forall_mem_cons.mpr ⟨lw_p39, List.forall_mem_cons.mpr ⟨lw_p40, List.forall_mem_cons.mpr ⟨lw_p41, List.forall_mem_cons.mpr ⟨lw_p42, List.forall_mem_cons.mpr ⟨lw_p43, List.forall_mem_cons.mpr ⟨lw_p44, List.forall_mem_cons.mpr ⟨lw_p45, List.forall_mem_cons.mpr ⟨lw_p46, List.forall_mem_cons.mpr ⟨lw_p47, fun _ h => absurd h List.not_mem_nil⟩⟩⟩⟩⟩⟩⟩⟩⟩⟩⟩⟩⟩⟩⟩⟩
theorem lw_p48 : lw_okq (⟨"ClothMarketModel", "isHere", "(III)Z"⟩, 44) := ⟨⟨by decide +kernel, by decide +kernel⟩, List.mem_of_getElem? (i := 853) (by decide +kernel), List.mem_of_getElem? (i := 1074) (by decide +kernel), List.mem_of_getElem? (i := 1075) (by decide +kernel)⟩
theorem lw_p49 : lw_okq (⟨"ClothMarketModel", "readsStall", "(I)Z"⟩, 44) := ⟨⟨by decide +kernel, by decide +kernel⟩, List.mem_of_getElem? (i := 853) (by decide +kernel), List.mem_of_getElem? (i := 1078) (by decide +kernel), List.mem_of_getElem? (i := 1079) (by decide +kernel)⟩
theorem lw_p50 : lw_okq (⟨"ClothMarketModel", "readsBuyer", "(I)Z"⟩, 44) := ⟨⟨by decide +kernel, by decide +kernel⟩, List.mem_of_getElem? (i := 853) (by decide +kernel), List.mem_of_getElem? (i := 1082) (by decide +kernel), List.mem_of_getElem? (i := 1083) (by decide +kernel)⟩
theorem lw_p51 : lw_okq (⟨"ClothMarketModel", "isBuyer", "(I)Z"⟩, 44) := ⟨⟨by decide +kernel, by decide +kernel⟩, List.mem_of_getElem? (i := 853) (by decide +kernel), List.mem_of_getElem? (i := 1097) (by decide +kernel), List.mem_of_getElem? (i := 1098) (by decide +kernel)⟩
theorem lw_p52 : lw_okq (⟨"ClothMarketModel", "buyerOf", "(II)I"⟩, 44) := ⟨⟨by decide +kernel, by decide +kernel⟩, List.mem_of_getElem? (i := 853) (by decide +kernel), List.mem_of_getElem? (i := 1101) (by decide +kernel), List.mem_of_getElem? (i := 1102) (by decide +kernel)⟩
theorem lw_p53 : lw_okq (⟨"ClothMarketModel", "isStall", "(I)Z"⟩, 44) := ⟨⟨by decide +kernel, by decide +kernel⟩, List.mem_of_getElem? (i := 853) (by decide +kernel), List.mem_of_getElem? (i := 1109) (by decide +kernel), List.mem_of_getElem? (i := 1110) (by decide +kernel)⟩
theorem lw_p54 : lw_okq (⟨"ClothMarketModel", "stallOf", "(II)I"⟩, 44) := ⟨⟨by decide +kernel, by decide +kernel⟩, List.mem_of_getElem? (i := 853) (by decide +kernel), List.mem_of_getElem? (i := 1113) (by decide +kernel), List.mem_of_getElem? (i := 1114) (by decide +kernel)⟩
theorem lw_p55 : lw_okq (⟨"ClothMarketModel", "isA", "(II)Z"⟩, 44) := ⟨⟨by decide +kernel, by decide +kernel⟩, List.mem_of_getElem? (i := 853) (by decide +kernel), List.mem_of_getElem? (i := 1121) (by decide +kernel), List.mem_of_getElem? (i := 1122) (by decide +kernel)⟩
theorem lw_p56 : lw_okq (⟨"ClothMarketModel", "goers", "(II)I"⟩, 44) := ⟨⟨by decide +kernel, by decide +kernel⟩, List.mem_of_getElem? (i := 853) (by decide +kernel), List.mem_of_getElem? (i := 1128) (by decide +kernel), List.mem_of_getElem? (i := 1129) (by decide +kernel)⟩
theorem lw_p57 : lw_okq (⟨"ClothMarketModel", "isHeld", "(III)Z"⟩, 44) := ⟨⟨by decide +kernel, by decide +kernel⟩, List.mem_of_getElem? (i := 853) (by decide +kernel), List.mem_of_getElem? (i := 1132) (by decide +kernel), List.mem_of_getElem? (i := 1133) (by decide +kernel)⟩
theorem lw_p58 : lw_okq (⟨"ClothMarketModel", "farTo", "(II)I"⟩, 44) := ⟨⟨by decide +kernel, by decide +kernel⟩, List.mem_of_getElem? (i := 853) (by decide +kernel), List.mem_of_getElem? (i := 1145) (by decide +kernel), List.mem_of_getElem? (i := 1146) (by decide +kernel)⟩
theorem lw_p59 : lw_okq (⟨"ClothMarketModel", "nearest", "(III)I"⟩, 44) := ⟨⟨by decide +kernel, by decide +kernel⟩, List.mem_of_getElem? (i := 853) (by decide +kernel), List.mem_of_getElem? (i := 1149) (by decide +kernel), List.mem_of_getElem? (i := 1150) (by decide +kernel)⟩
theorem lw_p60 : lw_okq (⟨"ClothMarketModel", "wishOf", "(I)I"⟩, 44) := ⟨⟨by decide +kernel, by decide +kernel⟩, List.mem_of_getElem? (i := 853) (by decide +kernel), List.mem_of_getElem? (i := 1165) (by decide +kernel), List.mem_of_getElem? (i := 1166) (by decide +kernel)⟩
theorem lw_p61 : lw_okq (⟨"ClothMarketModel", "write", "([II)V"⟩, 44) := ⟨⟨by decide +kernel, by decide +kernel⟩, List.mem_of_getElem? (i := 853) (by decide +kernel), List.mem_of_getElem? (i := 1173) (by decide +kernel), List.mem_of_getElem? (i := 1174) (by decide +kernel)⟩
theorem lw_p62 : lw_okq (⟨"ClothMarketModel", "passMinute", "(II)V"⟩, 44) := ⟨⟨by decide +kernel, by decide +kernel⟩, List.mem_of_getElem? (i := 853) (by decide +kernel), List.mem_of_getElem? (i := 1177) (by decide +kernel), List.mem_of_getElem? (i := 1178) (by decide +kernel)⟩
theorem lw_p63 : lw_okq (⟨"ClothMarketModel", "stepRich", "(I)V"⟩, 44) := ⟨⟨by decide +kernel, by decide +kernel⟩, List.mem_of_getElem? (i := 853) (by decide +kernel), List.mem_of_getElem? (i := 1181) (by decide +kernel), List.mem_of_getElem? (i := 1182) (by decide +kernel)⟩
def lw_privs_4 : List (MethodName × Nat) := [(⟨"ClothMarketModel", "isHere", "(III)Z"⟩, 44), (⟨"ClothMarketModel", "readsStall", "(I)Z"⟩, 44), (⟨"ClothMarketModel", "readsBuyer", "(I)Z"⟩, 44), (⟨"ClothMarketModel", "isBuyer", "(I)Z"⟩, 44), (⟨"ClothMarketModel", "buyerOf", "(II)I"⟩, 44), (⟨"ClothMarketModel", "isStall", "(I)Z"⟩, 44), (⟨"ClothMarketModel", "stallOf", "(II)I"⟩, 44), (⟨"ClothMarketModel", "isA", "(II)Z"⟩, 44), (⟨"ClothMarketModel", "goers", "(II)I"⟩, 44), (⟨"ClothMarketModel", "isHeld", "(III)Z"⟩, 44), (⟨"ClothMarketModel", "farTo", "(II)I"⟩, 44), (⟨"ClothMarketModel", "nearest", "(III)I"⟩, 44), (⟨"ClothMarketModel", "wishOf", "(I)I"⟩, 44), (⟨"ClothMarketModel", "write", "([II)V"⟩, 44), (⟨"ClothMarketModel", "passMinute", "(II)V"⟩, 44), (⟨"ClothMarketModel", "stepRich", "(I)V"⟩, 44)]
theorem lw_r4 : ∀ q ∈ lw_privs_4, lw_okq q := List.forall_mem_cons.mpr ⟨lw_p48, List.forall_mem_cons.mpr ⟨lw_p49, List.forall_mem_cons.mpr ⟨lw_p50, List.forall_mem_cons.mpr ⟨lw_p51, List.forall_mem_cons.mpr ⟨lw_p52, List.forall_mem_cons.mpr ⟨lw_p53, List.forall_mem_cons.mpr ⟨lw_p54, List.forall_mem_cons.mpr ⟨lw_p55, List.forall_mem_cons.mpr ⟨lw_p56, List.forall_mem_cons.mpr ⟨lw_p57, List.forall_mem_cons.mpr ⟨lw_p58, List.forall_mem_cons.mpr ⟨lw_p59, List.forall_mem_cons.mpr ⟨lw_p60, List.forall_mem_cons.mpr ⟨lw_p61, List.forall_mem_cons.mpr ⟨lw_p62, List.forall_mem_cons.mpr ⟨lw_p63, fun _ h => absurd h List.not_mem_nil⟩⟩⟩⟩⟩⟩⟩⟩⟩⟩⟩⟩⟩⟩⟩⟩
theorem lw_p64 : lw_okq (⟨"ClothMarketModel", "stepPlain", "(II)V"⟩, 44) := ⟨⟨by decide +kernel, by decide +kernel⟩, List.mem_of_getElem? (i := 853) (by decide +kernel), List.mem_of_getElem? (i := 1185) (by decide +kernel), List.mem_of_getElem? (i := 1186) (by decide +kernel)⟩
theorem lw_p65 : lw_okq (⟨"ClothMarketModel", "sunNow", "()I"⟩, 44) := ⟨⟨by decide +kernel, by decide +kernel⟩, List.mem_of_getElem? (i := 853) (by decide +kernel), List.mem_of_getElem? (i := 1189) (by decide +kernel), List.mem_of_getElem? (i := 1190) (by decide +kernel)⟩
theorem lw_p66 : lw_okq (⟨"ClothMarketModel", "boughtAt", "(II)I"⟩, 44) := ⟨⟨by decide +kernel, by decide +kernel⟩, List.mem_of_getElem? (i := 853) (by decide +kernel), List.mem_of_getElem? (i := 1193) (by decide +kernel), List.mem_of_getElem? (i := 1194) (by decide +kernel)⟩
theorem lw_p67 : lw_okq (⟨"ClothMarketModel", "isShaded", "(II)Z"⟩, 44) := ⟨⟨by decide +kernel, by decide +kernel⟩, List.mem_of_getElem? (i := 853) (by decide +kernel), List.mem_of_getElem? (i := 1197) (by decide +kernel), List.mem_of_getElem? (i := 1198) (by decide +kernel)⟩
theorem lw_p68 : lw_okq (⟨"ClothMarketModel", "read", "([II)V"⟩, 44) := ⟨⟨by decide +kernel, by decide +kernel⟩, List.mem_of_getElem? (i := 853) (by decide +kernel), List.mem_of_getElem? (i := 1205) (by decide +kernel), List.mem_of_getElem? (i := 1206) (by decide +kernel)⟩
theorem lw_p69 : lw_okq (⟨"ClothMarketModel", "shadedBy", "(I)I"⟩, 44) := ⟨⟨by decide +kernel, by decide +kernel⟩, List.mem_of_getElem? (i := 853) (by decide +kernel), List.mem_of_getElem? (i := 1221) (by decide +kernel), List.mem_of_getElem? (i := 1222) (by decide +kernel)⟩
theorem lw_p70 : lw_okq (⟨"ClothMarketModel", "putAside", "()V"⟩, 44) := ⟨⟨by decide +kernel, by decide +kernel⟩, List.mem_of_getElem? (i := 853) (by decide +kernel), List.mem_of_getElem? (i := 1237) (by decide +kernel), List.mem_of_getElem? (i := 1238) (by decide +kernel)⟩
theorem lw_p71 : lw_okq (⟨"ClothMarketModel", "comeBack", "()V"⟩, 44) := ⟨⟨by decide +kernel, by decide +kernel⟩, List.mem_of_getElem? (i := 853) (by decide +kernel), List.mem_of_getElem? (i := 1241) (by decide +kernel), List.mem_of_getElem? (i := 1242) (by decide +kernel)⟩
theorem lw_p72 : lw_okq (⟨"ClothMarketModel", "lookAhead", "(I)V"⟩, 44) := ⟨⟨by decide +kernel, by decide +kernel⟩, List.mem_of_getElem? (i := 853) (by decide +kernel), List.mem_of_getElem? (i := 1249) (by decide +kernel), List.mem_of_getElem? (i := 1250) (by decide +kernel)⟩
theorem lw_p73 : lw_okq (⟨"ClothMarketModel", "setPast", "(I)V"⟩, 44) := ⟨⟨by decide +kernel, by decide +kernel⟩, List.mem_of_getElem? (i := 853) (by decide +kernel), List.mem_of_getElem? (i := 1257) (by decide +kernel), List.mem_of_getElem? (i := 1258) (by decide +kernel)⟩
theorem lw_p74 : lw_okq (⟨"ClothMarketModel", "isPast", "(I)Z"⟩, 44) := ⟨⟨by decide +kernel, by decide +kernel⟩, List.mem_of_getElem? (i := 853) (by decide +kernel), List.mem_of_getElem? (i := 1261) (by decide +kernel), List.mem_of_getElem? (i := 1262) (by decide +kernel)⟩
theorem lw_p75 : lw_okq (⟨"ClothMarketModel", "wanting", "()I"⟩, 44) := ⟨⟨by decide +kernel, by decide +kernel⟩, List.mem_of_getElem? (i := 853) (by decide +kernel), List.mem_of_getElem? (i := 1265) (by decide +kernel), List.mem_of_getElem? (i := 1266) (by decide +kernel)⟩
theorem lw_p76 : lw_okq (⟨"ClothMarketModel", "orderOn", "(II)V"⟩, 44) := ⟨⟨by decide +kernel, by decide +kernel⟩, List.mem_of_getElem? (i := 853) (by decide +kernel), List.mem_of_getElem? (i := 1281) (by decide +kernel), List.mem_of_getElem? (i := 1282) (by decide +kernel)⟩
theorem lw_p77 : lw_okq (⟨"ClothMarketModel", "holds", "(I)Z"⟩, 44) := ⟨⟨by decide +kernel, by decide +kernel⟩, List.mem_of_getElem? (i := 853) (by decide +kernel), List.mem_of_getElem? (i := 1297) (by decide +kernel), List.mem_of_getElem? (i := 1298) (by decide +kernel)⟩
theorem lw_p78 : lw_okq (⟨"ClothMarketModel", "askedTrack", "(III)I"⟩, 44) := ⟨⟨by decide +kernel, by decide +kernel⟩, List.mem_of_getElem? (i := 853) (by decide +kernel), List.mem_of_getElem? (i := 1309) (by decide +kernel), List.mem_of_getElem? (i := 1310) (by decide +kernel)⟩
theorem lw_p79 : lw_okq (⟨"ClothMarketModel", "setFits", "(III)V"⟩, 44) := ⟨⟨by decide +kernel, by decide +kernel⟩, List.mem_of_getElem? (i := 853) (by decide +kernel), List.mem_of_getElem? (i := 1313) (by decide +kernel), List.mem_of_getElem? (i := 1314) (by decide +kernel)⟩
def lw_privs_5 : List (MethodName × Nat) := [(⟨"ClothMarketModel", "stepPlain", "(II)V"⟩, 44), (⟨"ClothMarketModel", "sunNow", "()I"⟩, 44), (⟨"ClothMarketModel", "boughtAt", "(II)I"⟩, 44), (⟨"ClothMarketModel", "isShaded", "(II)Z"⟩, 44), (⟨"ClothMarketModel", "read", "([II)V"⟩, 44), (⟨"ClothMarketModel", "shadedBy", "(I)I"⟩, 44), (⟨"ClothMarketModel", "putAside", "()V"⟩, 44), (⟨"ClothMarketModel", "comeBack", "()V"⟩, 44), (⟨"ClothMarketModel", "lookAhead", "(I)V"⟩, 44), (⟨"ClothMarketModel", "setPast", "(I)V"⟩, 44), (⟨"ClothMarketModel", "isPast", "(I)Z"⟩, 44), (⟨"ClothMarketModel", "wanting", "()I"⟩, 44), (⟨"ClothMarketModel", "orderOn", "(II)V"⟩, 44), (⟨"ClothMarketModel", "holds", "(I)Z"⟩, 44), (⟨"ClothMarketModel", "askedTrack", "(III)I"⟩, 44), (⟨"ClothMarketModel", "setFits", "(III)V"⟩, 44)]
theorem lw_r5 : ∀ q ∈ lw_privs_5, lw_okq q := List.forall_mem_cons.mpr ⟨lw_p64, List.forall_mem_cons.mpr ⟨lw_p65, List.forall_mem_cons.mpr ⟨lw_p66, List.forall_mem_cons.mpr ⟨lw_p67, List.forall_mem_cons.mpr ⟨lw_p68, List.forall_mem_cons.mpr ⟨lw_p69, List.forall_mem_cons.mpr ⟨lw_p70, List.forall_mem_cons.mpr ⟨lw_p71, List.forall_mem_cons.mpr ⟨lw_p72, List.forall_mem_cons.mpr ⟨lw_p73, List.forall_mem_cons.mpr ⟨lw_p74, List.forall_mem_cons.mpr ⟨lw_p75, List.forall_mem_cons.mpr ⟨lw_p76, List.forall_mem_cons.mpr ⟨lw_p77, List.forall_mem_cons.mpr ⟨lw_p78, List.forall_mem_cons.mpr ⟨lw_p79, fun _ h => absurd h List.not_mem_nil⟩⟩⟩⟩⟩⟩⟩⟩⟩⟩⟩⟩⟩⟩⟩⟩
theorem lw_p80 : lw_okq (⟨"ClothMarketModel", "fitOn", "(IIIII)V"⟩, 44) := ⟨⟨by decide +kernel, by decide +kernel⟩, List.mem_of_getElem? (i := 853) (by decide +kernel), List.mem_of_getElem? (i := 1317) (by decide +kernel), List.mem_of_getElem? (i := 1318) (by decide +kernel)⟩
theorem lw_p81 : lw_okq (⟨"ClothMarketModel", "isTrack", "(II)Z"⟩, 44) := ⟨⟨by decide +kernel, by decide +kernel⟩, List.mem_of_getElem? (i := 853) (by decide +kernel), List.mem_of_getElem? (i := 1321) (by decide +kernel), List.mem_of_getElem? (i := 1322) (by decide +kernel)⟩
theorem lw_p82 : lw_okq (⟨"ClothMarketModel", "allPrices", "()I"⟩, 44) := ⟨⟨by decide +kernel, by decide +kernel⟩, List.mem_of_getElem? (i := 853) (by decide +kernel), List.mem_of_getElem? (i := 1345) (by decide +kernel), List.mem_of_getElem? (i := 1346) (by decide +kernel)⟩
theorem lw_p83 : lw_okq (⟨"ClothMarketModel", "allPaid", "()I"⟩, 44) := ⟨⟨by decide +kernel, by decide +kernel⟩, List.mem_of_getElem? (i := 853) (by decide +kernel), List.mem_of_getElem? (i := 1349) (by decide +kernel), List.mem_of_getElem? (i := 1350) (by decide +kernel)⟩
theorem lw_p84 : lw_okq (⟨"ClothMarketModel", "tells", "(I)I"⟩, 44) := ⟨⟨by decide +kernel, by decide +kernel⟩, List.mem_of_getElem? (i := 853) (by decide +kernel), List.mem_of_getElem? (i := 1364) (by decide +kernel), List.mem_of_getElem? (i := 1365) (by decide +kernel)⟩
theorem lw_p85 : lw_okq (⟨"ClothMarketModel", "mix", "(I)V"⟩, 44) := ⟨⟨by decide +kernel, by decide +kernel⟩, List.mem_of_getElem? (i := 853) (by decide +kernel), List.mem_of_getElem? (i := 1381) (by decide +kernel), List.mem_of_getElem? (i := 1382) (by decide +kernel)⟩
theorem lw_p86 : lw_okq (⟨"ClothMarketModel", "mixMarket", "()V"⟩, 44) := ⟨⟨by decide +kernel, by decide +kernel⟩, List.mem_of_getElem? (i := 853) (by decide +kernel), List.mem_of_getElem? (i := 1386) (by decide +kernel), List.mem_of_getElem? (i := 1387) (by decide +kernel)⟩
def lw_privs_6 : List (MethodName × Nat) := [(⟨"ClothMarketModel", "fitOn", "(IIIII)V"⟩, 44), (⟨"ClothMarketModel", "isTrack", "(II)Z"⟩, 44), (⟨"ClothMarketModel", "allPrices", "()I"⟩, 44), (⟨"ClothMarketModel", "allPaid", "()I"⟩, 44), (⟨"ClothMarketModel", "tells", "(I)I"⟩, 44), (⟨"ClothMarketModel", "mix", "(I)V"⟩, 44), (⟨"ClothMarketModel", "mixMarket", "()V"⟩, 44)]
theorem lw_r6 : ∀ q ∈ lw_privs_6, lw_okq q := List.forall_mem_cons.mpr ⟨lw_p80, List.forall_mem_cons.mpr ⟨lw_p81, List.forall_mem_cons.mpr ⟨lw_p82, List.forall_mem_cons.mpr ⟨lw_p83, List.forall_mem_cons.mpr ⟨lw_p84, List.forall_mem_cons.mpr ⟨lw_p85, List.forall_mem_cons.mpr ⟨lw_p86, fun _ h => absurd h List.not_mem_nil⟩⟩⟩⟩⟩⟩⟩
def lw_privs : List (MethodName × Nat) := lw_privs_1 ++ (lw_privs_2 ++ (lw_privs_3 ++ (lw_privs_4 ++ (lw_privs_5 ++ (lw_privs_6)))))
def lw_tbl : List Cond := k2_sels lw_privs ++ tables_1
theorem lw_privs_ok : ∀ q ∈ lw_privs, lw_okq q := by
  show ∀ q ∈ lw_privs_1 ++ (lw_privs_2 ++ (lw_privs_3 ++ (lw_privs_4 ++ (lw_privs_5 ++ (lw_privs_6))))), lw_okq q
  exact List.forall_mem_append.mpr ⟨lw_r1, List.forall_mem_append.mpr ⟨lw_r2, List.forall_mem_append.mpr ⟨lw_r3, List.forall_mem_append.mpr ⟨lw_r4, List.forall_mem_append.mpr ⟨lw_r5, lw_r6⟩⟩⟩⟩⟩
def RX0 : String := "ClothMarket$Forecast"
def TX0 : u_T := fun k => match k with
  | 0 => ("ClothMarket$Forecast", "trial", "LClothMarket$Market;", true)
  | 1 => ("ClothMarket$Forecast", "order", "[I", true)
  | 2 => ("ClothMarket$Forecast", "week", "[J", true)
  | _ => ("ClothMarket$Forecast", "besides", "I", false)
def tyX0 : Nat → FieldType := fun k => match k with
  | 0 => .object "ClothMarket$Market"
  | 1 => .array .int
  | 2 => .array .long
  | _ => .int
abbrev wsX00 : List Cond := u_ws RX0 TX0 4
theorem nmX0 : ∀ a, a < 4 → ∀ b, b < 4 → a ≠ b → (TX0 a).2.1 ≠ (TX0 b).2.1 := by decide +kernel
theorem tyX0_ok : ∀ k, k < 4 → parseFieldDescriptor (TX0 k).2.2.1 = some (tyX0 k) := by decide +kernel
abbrev cX0_init : ByteArray := prog_2_method_1_code
def yX0_init : MethodName := ⟨RX0, "<init>", "()V"⟩
abbrev cX0_pass : ByteArray := prog_2_method_2_code
def yX0_pass : MethodName := ⟨RX0, "pass", "(I)I"⟩
abbrev cX0_firstSaleTo : ByteArray := prog_2_method_3_code
def yX0_firstSaleTo : MethodName := ⟨RX0, "firstSaleTo", "(LClothMarket$Market;I)I"⟩
abbrev cX0_sales : ByteArray := prog_2_method_4_code
def yX0_sales : MethodName := ⟨RX0, "sales", "(LClothMarket$Market;I)I"⟩
abbrev cX0_salesInWinds : ByteArray := prog_2_method_5_code
def yX0_salesInWinds : MethodName := ⟨RX0, "salesInWinds", "(LClothMarket$Market;II)I"⟩
abbrev cX0_firstRest : ByteArray := prog_2_method_6_code
def yX0_firstRest : MethodName := ⟨RX0, "firstRest", "(LClothMarket$Market;)I"⟩
abbrev cX0_spotsAfter : ByteArray := prog_2_method_7_code
def yX0_spotsAfter : MethodName := ⟨RX0, "spotsAfter", "(LClothMarket$Market;ILClothMarket$Strip;)I"⟩
abbrev cX0_bestOrder : ByteArray := prog_2_method_8_code
def yX0_bestOrder : MethodName := ⟨RX0, "bestOrder", "(LClothMarket$Market;ILClothMarket$Strip;)I"⟩
abbrev cX0_shareWants : ByteArray := prog_2_method_9_code
def yX0_shareWants : MethodName := ⟨RX0, "shareWants", "(LClothMarket$Market;)V"⟩
abbrev cX0_layOrder : ByteArray := prog_2_method_10_code
def yX0_layOrder : MethodName := ⟨RX0, "layOrder", "(LClothMarket$Strip;)V"⟩
abbrev cX0_nextOrder : ByteArray := prog_2_method_11_code
def yX0_nextOrder : MethodName := ⟨RX0, "nextOrder", "(I)Z"⟩
abbrev cX0_swap : ByteArray := prog_2_method_12_code
def yX0_swap : MethodName := ⟨RX0, "swap", "(II)V"⟩
abbrev cX0_bestPlace : ByteArray := prog_2_method_13_code
def yX0_bestPlace : MethodName := ⟨RX0, "bestPlace", "(LClothMarket$Market;II)I"⟩
abbrev cX0_leastMissed : ByteArray := prog_2_method_14_code
def yX0_leastMissed : MethodName := ⟨RX0, "leastMissed", "(LClothMarket$Market;I)I"⟩
abbrev cX0_whoBought : ByteArray := prog_2_method_15_code
def yX0_whoBought : MethodName := ⟨RX0, "whoBought", "(LClothMarket$Market;)I"⟩
def RX1 : String := "ClothMarket$History"
def TX1 : u_T := fun k => match k with
  | 0 => ("ClothMarket$History", "saved", "[I", true)
  | _ => ("ClothMarket$History", "first", "I", false)
def tyX1 : Nat → FieldType := fun k => match k with
  | 0 => .array .int
  | _ => .int
abbrev wsX10 : List Cond := u_ws RX1 TX1 2
theorem nmX1 : ∀ a, a < 2 → ∀ b, b < 2 → a ≠ b → (TX1 a).2.1 ≠ (TX1 b).2.1 := by decide +kernel
theorem tyX1_ok : ∀ k, k < 2 → parseFieldDescriptor (TX1 k).2.2.1 = some (tyX1 k) := by decide +kernel
abbrev cX1_init : ByteArray := prog_3_method_1_code
def yX1_init : MethodName := ⟨RX1, "<init>", "()V"⟩
abbrev cX1_first : ByteArray := prog_3_method_2_code
def yX1_first : MethodName := ⟨RX1, "first", "()I"⟩
abbrev cX1_beginAt : ByteArray := prog_3_method_3_code
def yX1_beginAt : MethodName := ⟨RX1, "beginAt", "(I)V"⟩
abbrev cX1_save : ByteArray := prog_3_method_4_code
def yX1_save : MethodName := ⟨RX1, "save", "(LClothMarket$Market;)V"⟩
abbrev cX1_goBack : ByteArray := prog_3_method_5_code
def yX1_goBack : MethodName := ⟨RX1, "goBack", "(LClothMarket$Market;I)V"⟩
def RX2 : String := "ClothMarket$Market"
def TX2 : u_T := fun k => match k with
  | 0 => ("ClothMarket$Market", "reach", "I", false)
  | 1 => ("ClothMarket$Market", "minute", "I", false)
  | 2 => ("ClothMarket$Market", "stalls", "I", false)
  | 3 => ("ClothMarket$Market", "buyers", "I", false)
  | 4 => ("ClothMarket$Market", "stallSpot", "[I", true)
  | 5 => ("ClothMarket$Market", "stallGood", "[I", true)
  | 6 => ("ClothMarket$Market", "stallPrice", "[I", true)
  | 7 => ("ClothMarket$Market", "stallSold", "[I", true)
  | 8 => ("ClothMarket$Market", "kind", "[I", true)
  | 9 => ("ClothMarket$Market", "spot", "[I", true)
  | 10 => ("ClothMarket$Market", "want", "[I", true)
  | 11 => ("ClothMarket$Market", "paid", "[I", true)
  | 12 => ("ClothMarket$Market", "slack", "[I", true)
  | _ => ("ClothMarket$Market", "ways", "[I", true)
def tyX2 : Nat → FieldType := fun k => match k with
  | 0 => .int
  | 1 => .int
  | 2 => .int
  | 3 => .int
  | 4 => .array .int
  | 5 => .array .int
  | 6 => .array .int
  | 7 => .array .int
  | 8 => .array .int
  | 9 => .array .int
  | 10 => .array .int
  | 11 => .array .int
  | 12 => .array .int
  | _ => .array .int
abbrev wsX20 : List Cond := u_ws RX2 TX2 14
theorem nmX2 : ∀ a, a < 14 → ∀ b, b < 14 → a ≠ b → (TX2 a).2.1 ≠ (TX2 b).2.1 := by decide +kernel
theorem tyX2_ok : ∀ k, k < 14 → parseFieldDescriptor (TX2 k).2.2.1 = some (tyX2 k) := by decide +kernel
abbrev cX2_init : ByteArray := prog_4_method_1_code
def yX2_init : MethodName := ⟨RX2, "<init>", "()V"⟩
abbrev cX2_clear : ByteArray := prog_4_method_2_code
def yX2_clear : MethodName := ⟨RX2, "clear", "()V"⟩
abbrev cX2_addStall : ByteArray := prog_4_method_3_code
def yX2_addStall : MethodName := ⟨RX2, "addStall", "(III)V"⟩
abbrev cX2_canAddBuyer : ByteArray := prog_4_method_4_code
def yX2_canAddBuyer : MethodName := ⟨RX2, "canAddBuyer", "(II)Z"⟩
abbrev cX2_addBuyer : ByteArray := prog_4_method_5_code
def yX2_addBuyer : MethodName := ⟨RX2, "addBuyer", "(III)V"⟩
abbrev cX2_slackBehind : ByteArray := prog_4_method_6_code
def yX2_slackBehind : MethodName := ⟨RX2, "slackBehind", "(II)I"⟩
abbrev cX2_take : ByteArray := prog_4_method_7_code
def yX2_take : MethodName := ⟨RX2, "take", "(LClothMarket$Market;)V"⟩
abbrev cX2_takeWhatMoves : ByteArray := prog_4_method_8_code
def yX2_takeWhatMoves : MethodName := ⟨RX2, "takeWhatMoves", "(LClothMarket$Market;)V"⟩
abbrev cX2_findWays : ByteArray := prog_4_method_9_code
def yX2_findWays : MethodName := ⟨RX2, "findWays", "()V"⟩
abbrev cX2_wayToNearest : ByteArray := prog_4_method_10_code
def yX2_wayToNearest : MethodName := ⟨RX2, "wayToNearest", "(II)I"⟩
abbrev cX2_nearestStall : ByteArray := prog_4_method_11_code
def yX2_nearestStall : MethodName := ⟨RX2, "nearestStall", "(II)I"⟩
abbrev cX2_isNearer : ByteArray := prog_4_method_12_code
def yX2_isNearer : MethodName := ⟨RX2, "isNearer", "(III)Z"⟩
abbrev cX2_farToNearest : ByteArray := prog_4_method_13_code
def yX2_farToNearest : MethodName := ⟨RX2, "farToNearest", "(II)I"⟩
abbrev cX2_wayOf : ByteArray := prog_4_method_14_code
def yX2_wayOf : MethodName := ⟨RX2, "wayOf", "(I)I"⟩
abbrev cX2_isOfKind : ByteArray := prog_4_method_15_code
def yX2_isOfKind : MethodName := ⟨RX2, "isOfKind", "(II)Z"⟩
abbrev cX2_isRich : ByteArray := prog_4_method_16_code
def yX2_isRich : MethodName := ⟨RX2, "isRich", "(I)Z"⟩
abbrev cX2_passMinute : ByteArray := prog_4_method_17_code
def yX2_passMinute : MethodName := ⟨RX2, "passMinute", "(I)I"⟩
abbrev cX2_sun : ByteArray := prog_4_method_18_code
def yX2_sun : MethodName := ⟨RX2, "sun", "()I"⟩
abbrev cX2_holds : ByteArray := prog_4_method_19_code
def yX2_holds : MethodName := ⟨RX2, "holds", "(III)Z"⟩
abbrev cX2_walk : ByteArray := prog_4_method_20_code
def yX2_walk : MethodName := ⟨RX2, "walk", "(II)V"⟩
abbrev cX2_pull : ByteArray := prog_4_method_21_code
def yX2_pull : MethodName := ⟨RX2, "pull", "(II)V"⟩
abbrev cX2_canGo : ByteArray := prog_4_method_22_code
def yX2_canGo : MethodName := ⟨RX2, "canGo", "(III)Z"⟩
abbrev cX2_firstTaken : ByteArray := prog_4_method_23_code
def yX2_firstTaken : MethodName := ⟨RX2, "firstTaken", "(II)I"⟩
abbrev cX2_lastTaken : ByteArray := prog_4_method_24_code
def yX2_lastTaken : MethodName := ⟨RX2, "lastTaken", "(II)I"⟩
abbrev cX2_takenAlongRight : ByteArray := prog_4_method_25_code
def yX2_takenAlongRight : MethodName := ⟨RX2, "takenAlongRight", "(I)I"⟩
abbrev cX2_neighboursApart : ByteArray := prog_4_method_26_code
def yX2_neighboursApart : MethodName := ⟨RX2, "neighboursApart", "(I)I"⟩
abbrev cX2_stallsInReach : ByteArray := prog_4_method_27_code
def yX2_stallsInReach : MethodName := ⟨RX2, "stallsInReach", "(I)I"⟩
abbrev cX2_sell : ByteArray := prog_4_method_28_code
def yX2_sell : MethodName := ⟨RX2, "sell", "(I)I"⟩
abbrev cX2_stallHere : ByteArray := prog_4_method_29_code
def yX2_stallHere : MethodName := ⟨RX2, "stallHere", "(II)I"⟩
abbrev cX2_lastSpot : ByteArray := prog_4_method_30_code
def yX2_lastSpot : MethodName := ⟨RX2, "lastSpot", "()I"⟩
abbrev cX2_isShaded : ByteArray := prog_4_method_31_code
def yX2_isShaded : MethodName := ⟨RX2, "isShaded", "(II)Z"⟩
abbrev cX2_stallsShaded : ByteArray := prog_4_method_32_code
def yX2_stallsShaded : MethodName := ⟨RX2, "stallsShaded", "(I)I"⟩
abbrev cX2_shiftAll : ByteArray := prog_4_method_33_code
def yX2_shiftAll : MethodName := ⟨RX2, "shiftAll", "(I)Z"⟩
abbrev cX2_bestShift : ByteArray := prog_4_method_34_code
def yX2_bestShift : MethodName := ⟨RX2, "bestShift", "()I"⟩
abbrev cX2_fewestHolders : ByteArray := prog_4_method_35_code
def yX2_fewestHolders : MethodName := ⟨RX2, "fewestHolders", "()I"⟩
abbrev cX2_doHold : ByteArray := prog_4_method_36_code
def yX2_doHold : MethodName := ⟨RX2, "doHold", "(I)Z"⟩
abbrev cX2_howManyOfKind : ByteArray := prog_4_method_37_code
def yX2_howManyOfKind : MethodName := ⟨RX2, "howManyOfKind", "(I)I"⟩
abbrev cX2_howManyWant : ByteArray := prog_4_method_38_code
def yX2_howManyWant : MethodName := ⟨RX2, "howManyWant", "()I"⟩
abbrev cX2_paidByAll : ByteArray := prog_4_method_39_code
def yX2_paidByAll : MethodName := ⟨RX2, "paidByAll", "()I"⟩
abbrev cX2_pricesOfAll : ByteArray := prog_4_method_40_code
def yX2_pricesOfAll : MethodName := ⟨RX2, "pricesOfAll", "()I"⟩
abbrev cX2_factOfBuyer : ByteArray := prog_4_method_41_code
def yX2_factOfBuyer : MethodName := ⟨RX2, "factOfBuyer", "(II)I"⟩
abbrev cX2_factOfStall : ByteArray := prog_4_method_42_code
def yX2_factOfStall : MethodName := ⟨RX2, "factOfStall", "(II)I"⟩
abbrev cX2_spotsAndWants : ByteArray := prog_4_method_43_code
def yX2_spotsAndWants : MethodName := ⟨RX2, "spotsAndWants", "()J"⟩
abbrev cX2_digestOn : ByteArray := prog_4_method_44_code
def yX2_digestOn : MethodName := ⟨RX2, "digestOn", "(J)J"⟩
def RX3 : String := "ClothMarket$Reader"
def TX3 : u_T := fun k => match k with
  | 0 => ("ClothMarket$Reader", "into", "LClothMarket$Market;", true)
  | 1 => ("ClothMarket$Reader", "source", "LClothMarket$Strip;", false)
  | 2 => ("ClothMarket$Reader", "place", "I", false)
  | _ => ("ClothMarket$Reader", "wrong", "I", false)
def tyX3 : Nat → FieldType := fun k => match k with
  | 0 => .object "ClothMarket$Market"
  | 1 => .object "ClothMarket$Strip"
  | 2 => .int
  | _ => .int
abbrev wsX30 : List Cond := u_ws RX3 TX3 4
theorem nmX3 : ∀ a, a < 4 → ∀ b, b < 4 → a ≠ b → (TX3 a).2.1 ≠ (TX3 b).2.1 := by decide +kernel
theorem tyX3_ok : ∀ k, k < 4 → parseFieldDescriptor (TX3 k).2.2.1 = some (tyX3 k) := by decide +kernel
abbrev cX3_init : ByteArray := prog_5_method_1_code
def yX3_init : MethodName := ⟨RX3, "<init>", "()V"⟩
abbrev cX3_read : ByteArray := prog_5_method_2_code
def yX3_read : MethodName := ⟨RX3, "read", "(LClothMarket$Strip;)I"⟩
abbrev cX3_skipBlanks : ByteArray := prog_5_method_3_code
def yX3_skipBlanks : MethodName := ⟨RX3, "skipBlanks", "()V"⟩
abbrev cX3_take : ByteArray := prog_5_method_4_code
def yX3_take : MethodName := ⟨RX3, "take", "(II)I"⟩
abbrev cX3_readItem : ByteArray := prog_5_method_5_code
def yX3_readItem : MethodName := ⟨RX3, "readItem", "()V"⟩
abbrev cX3_kindOf : ByteArray := prog_5_method_6_code
def yX3_kindOf : MethodName := ⟨RX3, "kindOf", "(I)I"⟩
abbrev cX3_readStall : ByteArray := prog_5_method_7_code
def yX3_readStall : MethodName := ⟨RX3, "readStall", "()V"⟩
abbrev cX3_readBuyer : ByteArray := prog_5_method_8_code
def yX3_readBuyer : MethodName := ⟨RX3, "readBuyer", "(I)V"⟩
abbrev cX3_takeWant : ByteArray := prog_5_method_9_code
def yX3_takeWant : MethodName := ⟨RX3, "takeWant", "()I"⟩
def RX4 : String := "ClothMarket$Strip"
def TX4 : u_T := fun k => match k with
  | 0 => ("ClothMarket$Strip", "places", "[I", true)
  | _ => ("ClothMarket$Strip", "size", "I", false)
def tyX4 : Nat → FieldType := fun k => match k with
  | 0 => .array .int
  | _ => .int
abbrev wsX40 : List Cond := u_ws RX4 TX4 2
theorem nmX4 : ∀ a, a < 2 → ∀ b, b < 2 → a ≠ b → (TX4 a).2.1 ≠ (TX4 b).2.1 := by decide +kernel
theorem tyX4_ok : ∀ k, k < 2 → parseFieldDescriptor (TX4 k).2.2.1 = some (tyX4 k) := by decide +kernel
abbrev cX4_init : ByteArray := prog_6_method_1_code
def yX4_init : MethodName := ⟨RX4, "<init>", "(I)V"⟩
abbrev cX4_size : ByteArray := prog_6_method_2_code
def yX4_size : MethodName := ⟨RX4, "size", "()I"⟩
abbrev cX4_isThere : ByteArray := prog_6_method_3_code
def yX4_isThere : MethodName := ⟨RX4, "isThere", "()Z"⟩
abbrev cX4_has : ByteArray := prog_6_method_4_code
def yX4_has : MethodName := ⟨RX4, "has", "(I)Z"⟩
abbrev cX4_hasPart : ByteArray := prog_6_method_5_code
def yX4_hasPart : MethodName := ⟨RX4, "hasPart", "(II)Z"⟩
abbrev cX4_renew : ByteArray := prog_6_method_6_code
def yX4_renew : MethodName := ⟨RX4, "renew", "(II)V"⟩
abbrev cX4_remove : ByteArray := prog_6_method_7_code
def yX4_remove : MethodName := ⟨RX4, "remove", "()V"⟩
abbrev cX4_get : ByteArray := prog_6_method_8_code
def yX4_get : MethodName := ⟨RX4, "get", "(I)I"⟩
abbrev cX4_exchange : ByteArray := prog_6_method_9_code
def yX4_exchange : MethodName := ⟨RX4, "exchange", "(II)I"⟩
abbrev cX4_takePart : ByteArray := prog_6_method_10_code
def yX4_takePart : MethodName := ⟨RX4, "takePart", "(LClothMarket$Strip;III)V"⟩
abbrev cX4_sum : ByteArray := prog_6_method_11_code
def yX4_sum : MethodName := ⟨RX4, "sum", "()J"⟩
abbrev cX4_digestOn : ByteArray := prog_6_method_12_code
def yX4_digestOn : MethodName := ⟨RX4, "digestOn", "(J)J"⟩
def RX5 : String := "ClothMarket$Tracker"
def TX5 : u_T := fun k => match k with
  | 0 => ("ClothMarket$Tracker", "trial", "LClothMarket$Market;", true)
  | 1 => ("ClothMarket$Tracker", "goods", "[I", true)
  | 2 => ("ClothMarket$Tracker", "found", "I", false)
  | _ => ("ClothMarket$Tracker", "first", "I", false)
def tyX5 : Nat → FieldType := fun k => match k with
  | 0 => .object "ClothMarket$Market"
  | 1 => .array .int
  | 2 => .int
  | _ => .int
abbrev wsX50 : List Cond := u_ws RX5 TX5 4
theorem nmX5 : ∀ a, a < 4 → ∀ b, b < 4 → a ≠ b → (TX5 a).2.1 ≠ (TX5 b).2.1 := by decide +kernel
theorem tyX5_ok : ∀ k, k < 4 → parseFieldDescriptor (TX5 k).2.2.1 = some (tyX5 k) := by decide +kernel
abbrev cX5_init : ByteArray := prog_7_method_1_code
def yX5_init : MethodName := ⟨RX5, "<init>", "()V"⟩
abbrev cX5_seek : ByteArray := prog_7_method_2_code
def yX5_seek : MethodName := ⟨RX5, "seek", "(LClothMarket$Market;IILClothMarket$Strip;)V"⟩
abbrev cX5_howManyWays : ByteArray := prog_7_method_3_code
def yX5_howManyWays : MethodName := ⟨RX5, "howManyWays", "(I)I"⟩
abbrev cX5_giveWants : ByteArray := prog_7_method_4_code
def yX5_giveWants : MethodName := ⟨RX5, "giveWants", "(II)V"⟩
abbrev cX5_noteWants : ByteArray := prog_7_method_5_code
def yX5_noteWants : MethodName := ⟨RX5, "noteWants", "(II)V"⟩
abbrev cX5_isAsSeen : ByteArray := prog_7_method_6_code
def yX5_isAsSeen : MethodName := ⟨RX5, "isAsSeen", "(LClothMarket$Strip;)Z"⟩
def RX6 : String := "ClothMarket"
def TX6 : u_T := fun k => match k with
  | 0 => ("ClothMarket", "rows", "[LClothMarket$Strip;", true)
  | 1 => ("ClothMarket", "texts", "[LClothMarket$Strip;", true)
  | 2 => ("ClothMarket", "present", "LClothMarket$Market;", true)
  | 3 => ("ClothMarket", "kept", "[LClothMarket$Market;", true)
  | 4 => ("ClothMarket", "history", "LClothMarket$History;", true)
  | 5 => ("ClothMarket", "reader", "LClothMarket$Reader;", true)
  | 6 => ("ClothMarket", "forecast", "LClothMarket$Forecast;", true)
  | 7 => ("ClothMarket", "tracker", "LClothMarket$Tracker;", true)
  | 8 => ("ClothMarket", "findingCounts", "[I", true)
  | 9 => ("ClothMarket", "latestFinding", "I", false)
  | _ => ("ClothMarket", "told", "I", false)
def tyX6 : Nat → FieldType := fun k => match k with
  | 0 => .array (.object "ClothMarket$Strip")
  | 1 => .array (.object "ClothMarket$Strip")
  | 2 => .object "ClothMarket$Market"
  | 3 => .array (.object "ClothMarket$Market")
  | 4 => .object "ClothMarket$History"
  | 5 => .object "ClothMarket$Reader"
  | 6 => .object "ClothMarket$Forecast"
  | 7 => .object "ClothMarket$Tracker"
  | 8 => .array .int
  | 9 => .int
  | _ => .int
abbrev wsX60 : List Cond := u_ws RX6 TX6 11
theorem nmX6 : ∀ a, a < 11 → ∀ b, b < 11 → a ≠ b → (TX6 a).2.1 ≠ (TX6 b).2.1 := by decide +kernel
theorem tyX6_ok : ∀ k, k < 11 → parseFieldDescriptor (TX6 k).2.2.1 = some (tyX6 k) := by decide +kernel
abbrev cX6_init : ByteArray := prog_1_method_1_code
def yX6_init : MethodName := ⟨RX6, "<init>", "()V"⟩
abbrev cX6_row : ByteArray := prog_1_method_2_code
def yX6_row : MethodName := ⟨RX6, "row", "(II)I"⟩
abbrev cX6_lay : ByteArray := prog_1_method_3_code
def yX6_lay : MethodName := ⟨RX6, "lay", "(III)I"⟩
abbrev cX6_at : ByteArray := prog_1_method_4_code
def yX6_at : MethodName := ⟨RX6, "at", "(II)I"⟩
abbrev cX6_tear : ByteArray := prog_1_method_5_code
def yX6_tear : MethodName := ⟨RX6, "tear", "(I)I"⟩
abbrev cX6_copy : ByteArray := prog_1_method_6_code
def yX6_copy : MethodName := ⟨RX6, "copy", "(IIIII)I"⟩
abbrev cX6_mean : ByteArray := prog_1_method_7_code
def yX6_mean : MethodName := ⟨RX6, "mean", "(I)I"⟩
abbrev cX6_text : ByteArray := prog_1_method_8_code
def yX6_text : MethodName := ⟨RX6, "text", "(II)I"⟩
abbrev cX6_put : ByteArray := prog_1_method_9_code
def yX6_put : MethodName := ⟨RX6, "put", "(III)I"⟩
abbrev cX6_fault : ByteArray := prog_1_method_10_code
def yX6_fault : MethodName := ⟨RX6, "fault", "(I)I"⟩
abbrev cX6_market : ByteArray := prog_1_method_11_code
def yX6_market : MethodName := ⟨RX6, "market", "(I)I"⟩
abbrev cX6_buyer : ByteArray := prog_1_method_12_code
def yX6_buyer : MethodName := ⟨RX6, "buyer", "(II)I"⟩
abbrev cX6_stall : ByteArray := prog_1_method_13_code
def yX6_stall : MethodName := ⟨RX6, "stall", "(II)I"⟩
abbrev cX6_mark : ByteArray := prog_1_method_14_code
def yX6_mark : MethodName := ⟨RX6, "mark", "(II)I"⟩
abbrev cX6_want : ByteArray := prog_1_method_15_code
def yX6_want : MethodName := ⟨RX6, "want", "(II)I"⟩
abbrev cX6_price : ByteArray := prog_1_method_16_code
def yX6_price : MethodName := ⟨RX6, "price", "(II)I"⟩
abbrev cX6_wish : ByteArray := prog_1_method_17_code
def yX6_wish : MethodName := ⟨RX6, "wish", "(I)I"⟩
abbrev cX6_minutes : ByteArray := prog_1_method_18_code
def yX6_minutes : MethodName := ⟨RX6, "minutes", "(I)I"⟩
abbrev cX6_undo : ByteArray := prog_1_method_19_code
def yX6_undo : MethodName := ⟨RX6, "undo", "(I)I"⟩
abbrev cX6_turn : ByteArray := prog_1_method_20_code
def yX6_turn : MethodName := ⟨RX6, "turn", "(I)I"⟩
abbrev cX6_shade : ByteArray := prog_1_method_21_code
def yX6_shade : MethodName := ⟨RX6, "shade", "()I"⟩
abbrev cX6_shaded : ByteArray := prog_1_method_22_code
def yX6_shaded : MethodName := ⟨RX6, "shaded", "()I"⟩
abbrev cX6_keep : ByteArray := prog_1_method_23_code
def yX6_keep : MethodName := ⟨RX6, "keep", "(I)I"⟩
abbrev cX6_on : ByteArray := prog_1_method_24_code
def yX6_on : MethodName := ⟨RX6, "on", "(I)I"⟩
abbrev cX6_when : ByteArray := prog_1_method_25_code
def yX6_when : MethodName := ⟨RX6, "when", "(I)I"⟩
abbrev cX6_bought : ByteArray := prog_1_method_26_code
def yX6_bought : MethodName := ⟨RX6, "bought", "(I)I"⟩
abbrev cX6_rest : ByteArray := prog_1_method_27_code
def yX6_rest : MethodName := ⟨RX6, "rest", "()I"⟩
abbrev cX6_track : ByteArray := prog_1_method_28_code
def yX6_track : MethodName := ⟨RX6, "track", "(II)I"⟩
abbrev cX6_best : ByteArray := prog_1_method_29_code
def yX6_best : MethodName := ⟨RX6, "best", "(II)I"⟩
abbrev cX6_spot : ByteArray := prog_1_method_30_code
def yX6_spot : MethodName := ⟨RX6, "spot", "(II)I"⟩
abbrev cX6_missed : ByteArray := prog_1_method_31_code
def yX6_missed : MethodName := ⟨RX6, "missed", "(I)I"⟩
abbrev cX6_fewest : ByteArray := prog_1_method_32_code
def yX6_fewest : MethodName := ⟨RX6, "fewest", "()I"⟩
abbrev cX6_turns : ByteArray := prog_1_method_33_code
def yX6_turns : MethodName := ⟨RX6, "turns", "()I"⟩
abbrev cX6_fits : ByteArray := prog_1_method_34_code
def yX6_fits : MethodName := ⟨RX6, "fits", "(III)I"⟩
abbrev cX6_could : ByteArray := prog_1_method_35_code
def yX6_could : MethodName := ⟨RX6, "could", "(IIII)I"⟩
abbrev cX6_winds : ByteArray := prog_1_method_36_code
def yX6_winds : MethodName := ⟨RX6, "winds", "(II)I"⟩
abbrev cX6_asked : ByteArray := prog_1_method_37_code
def yX6_asked : MethodName := ⟨RX6, "asked", "()I"⟩
abbrev cX6_upper : ByteArray := prog_1_method_38_code
def yX6_upper : MethodName := ⟨RX6, "upper", "()J"⟩
abbrev cX6_lower : ByteArray := prog_1_method_39_code
def yX6_lower : MethodName := ⟨RX6, "lower", "()J"⟩
abbrev cX6_count : ByteArray := prog_1_method_40_code
def yX6_count : MethodName := ⟨RX6, "count", "(I)I"⟩
abbrev cX6_finding : ByteArray := prog_1_method_41_code
def yX6_finding : MethodName := ⟨RX6, "finding", "()I"⟩
abbrev cX6_findings : ByteArray := prog_1_method_42_code
def yX6_findings : MethodName := ⟨RX6, "findings", "(I)I"⟩
abbrev cX6_digest : ByteArray := prog_1_method_43_code
def yX6_digest : MethodName := ⟨RX6, "digest", "()J"⟩
abbrev cX6_refuse : ByteArray := prog_1_method_44_code
def yX6_refuse : MethodName := ⟨RX6, "refuse", "(I)I"⟩
abbrev cX6_tell : ByteArray := prog_1_method_45_code
def yX6_tell : MethodName := ⟨RX6, "tell", "(I)I"⟩
abbrev cX6_missingPlace : ByteArray := prog_1_method_46_code
def yX6_missingPlace : MethodName := ⟨RX6, "missingPlace", "(LClothMarket$Strip;I)I"⟩
abbrev cX6_refuseTrack : ByteArray := prog_1_method_47_code
def yX6_refuseTrack : MethodName := ⟨RX6, "refuseTrack", "(ILClothMarket$Strip;)I"⟩
abbrev cX6_isBuyer : ByteArray := prog_1_method_48_code
def yX6_isBuyer : MethodName := ⟨RX6, "isBuyer", "(I)Z"⟩
abbrev cX6_isStall : ByteArray := prog_1_method_49_code
def yX6_isStall : MethodName := ⟨RX6, "isStall", "(I)Z"⟩
abbrev cX6_isSetOfBuyers : ByteArray := prog_1_method_50_code
def yX6_isSetOfBuyers : MethodName := ⟨RX6, "isSetOfBuyers", "(I)Z"⟩
abbrev cX6_isKept : ByteArray := prog_1_method_51_code
def yX6_isKept : MethodName := ⟨RX6, "isKept", "(I)Z"⟩
abbrev cX6_numberOf : ByteArray := prog_1_method_52_code
def yX6_numberOf : MethodName := ⟨RX6, "numberOf", "(I)I"⟩
abbrev cX6_howManyKept : ByteArray := prog_1_method_53_code
def yX6_howManyKept : MethodName := ⟨RX6, "howManyKept", "()I"⟩
abbrev cX6_howManyThere : ByteArray := prog_1_method_54_code
def yX6_howManyThere : MethodName := ⟨RX6, "howManyThere", "([LClothMarket$Strip;)I"⟩
abbrev cX6_isWithin : ByteArray := prog_1_method_55_code
def yX6_isWithin : MethodName := ⟨RX6, "isWithin", "(II)Z"⟩
abbrev cX6_isUpTo : ByteArray := prog_1_method_56_code
def yX6_isUpTo : MethodName := ⟨RX6, "isUpTo", "(II)Z"⟩
abbrev cX6_isIn : ByteArray := prog_1_method_57_code
def yX6_isIn : MethodName := ⟨RX6, "isIn", "(II)Z"⟩
abbrev cX6_commonDivisor : ByteArray := prog_1_method_58_code
def yX6_commonDivisor : MethodName := ⟨RX6, "commonDivisor", "(JJ)J"⟩
def RX7 : String := "ClothMarketModel"
def TX7 : u_T := fun k => match k with
  | 0 => ("ClothMarketModel", "finding", "I", false)
  | 1 => ("ClothMarketModel", "findings", "[I", true)
  | 2 => ("ClothMarketModel", "asked", "I", false)
  | 3 => ("ClothMarketModel", "sizes", "[I", true)
  | 4 => ("ClothMarketModel", "rows", "[I", true)
  | 5 => ("ClothMarketModel", "moving", "[I", true)
  | 6 => ("ClothMarketModel", "lengths", "[I", true)
  | 7 => ("ClothMarketModel", "texts", "[I", true)
  | 8 => ("ClothMarketModel", "reach", "I", false)
  | 9 => ("ClothMarketModel", "many", "I", false)
  | 10 => ("ClothMarketModel", "stallMany", "I", false)
  | 11 => ("ClothMarketModel", "kinds", "[I", true)
  | 12 => ("ClothMarketModel", "spots", "[I", true)
  | 13 => ("ClothMarketModel", "wants", "[I", true)
  | 14 => ("ClothMarketModel", "paid", "[I", true)
  | 15 => ("ClothMarketModel", "stallSpots", "[I", true)
  | 16 => ("ClothMarketModel", "goods", "[I", true)
  | 17 => ("ClothMarketModel", "prices", "[I", true)
  | 18 => ("ClothMarketModel", "sold", "[I", true)
  | 19 => ("ClothMarketModel", "minute", "I", false)
  | 20 => ("ClothMarketModel", "base", "I", false)
  | 21 => ("ClothMarketModel", "readAt", "I", false)
  | 22 => ("ClothMarketModel", "readReach", "I", false)
  | 23 => ("ClothMarketModel", "readMany", "I", false)
  | 24 => ("ClothMarketModel", "readStalls", "I", false)
  | 25 => ("ClothMarketModel", "minuteSet", "I", false)
  | 26 => ("ClothMarketModel", "minutePaid", "I", false)
  | 27 => ("ClothMarketModel", "lastStall", "I", false)
  | 28 => ("ClothMarketModel", "notes", "[I", true)
  | 29 => ("ClothMarketModel", "kept", "[I", true)
  | 30 => ("ClothMarketModel", "aside", "[I", true)
  | 31 => ("ClothMarketModel", "asideMinute", "I", false)
  | 32 => ("ClothMarketModel", "aheadSet", "I", false)
  | 33 => ("ClothMarketModel", "aheadPaid", "I", false)
  | 34 => ("ClothMarketModel", "past", "[I", true)
  | 35 => ("ClothMarketModel", "orderSpan", "I", false)
  | 36 => ("ClothMarketModel", "orderMost", "I", false)
  | 37 => ("ClothMarketModel", "whose", "[I", true)
  | 38 => ("ClothMarketModel", "bestWhose", "[I", true)
  | 39 => ("ClothMarketModel", "wantsNow", "[I", true)
  | 40 => ("ClothMarketModel", "fitMany", "I", false)
  | 41 => ("ClothMarketModel", "fitFirst", "I", false)
  | 42 => ("ClothMarketModel", "fitGoods", "[I", true)
  | _ => ("ClothMarketModel", "h0", "J", false)
def tyX7 : Nat → FieldType := fun k => match k with
  | 0 => .int
  | 1 => .array .int
  | 2 => .int
  | 3 => .array .int
  | 4 => .array .int
  | 5 => .array .int
  | 6 => .array .int
  | 7 => .array .int
  | 8 => .int
  | 9 => .int
  | 10 => .int
  | 11 => .array .int
  | 12 => .array .int
  | 13 => .array .int
  | 14 => .array .int
  | 15 => .array .int
  | 16 => .array .int
  | 17 => .array .int
  | 18 => .array .int
  | 19 => .int
  | 20 => .int
  | 21 => .int
  | 22 => .int
  | 23 => .int
  | 24 => .int
  | 25 => .int
  | 26 => .int
  | 27 => .int
  | 28 => .array .int
  | 29 => .array .int
  | 30 => .array .int
  | 31 => .int
  | 32 => .int
  | 33 => .int
  | 34 => .array .int
  | 35 => .int
  | 36 => .int
  | 37 => .array .int
  | 38 => .array .int
  | 39 => .array .int
  | 40 => .int
  | 41 => .int
  | 42 => .array .int
  | _ => .long
abbrev wsX70 : List Cond := u_ws RX7 TX7 44
theorem nmX7 : ∀ a, a < 44 → ∀ b, b < 44 → a ≠ b → (TX7 a).2.1 ≠ (TX7 b).2.1 := by decide +kernel
theorem tyX7_ok : ∀ k, k < 44 → parseFieldDescriptor (TX7 k).2.2.1 = some (tyX7 k) := by decide +kernel
abbrev cX7_init : ByteArray := prog_9_method_1_code
def yX7_init : MethodName := ⟨RX7, "<init>", "()V"⟩
abbrev cX7_in : ByteArray := prog_9_method_3_code
def yX7_in : MethodName := ⟨RX7, "in", "(III)Z"⟩
abbrev cX7_meet : ByteArray := prog_9_method_4_code
def yX7_meet : MethodName := ⟨RX7, "meet", "(I)I"⟩
abbrev cX7_ask : ByteArray := prog_9_method_5_code
def yX7_ask : MethodName := ⟨RX7, "ask", "(II)I"⟩
abbrev cX7_has : ByteArray := prog_9_method_6_code
def yX7_has : MethodName := ⟨RX7, "has", "(II)Z"⟩
abbrev cX7_sizeOf : ByteArray := prog_9_method_7_code
def yX7_sizeOf : MethodName := ⟨RX7, "sizeOf", "(I)I"⟩
abbrev cX7_isRow : ByteArray := prog_9_method_8_code
def yX7_isRow : MethodName := ⟨RX7, "isRow", "(I)Z"⟩
abbrev cX7_isText : ByteArray := prog_9_method_9_code
def yX7_isText : MethodName := ⟨RX7, "isText", "(I)Z"⟩
abbrev cX7_askedRow : ByteArray := prog_9_method_10_code
def yX7_askedRow : MethodName := ⟨RX7, "askedRow", "(I)I"⟩
abbrev cX7_askedText : ByteArray := prog_9_method_11_code
def yX7_askedText : MethodName := ⟨RX7, "askedText", "(I)I"⟩
abbrev cX7_rowAt : ByteArray := prog_9_method_12_code
def yX7_rowAt : MethodName := ⟨RX7, "rowAt", "(II)I"⟩
abbrev cX7_setRow : ByteArray := prog_9_method_13_code
def yX7_setRow : MethodName := ⟨RX7, "setRow", "(III)V"⟩
abbrev cX7_row : ByteArray := prog_9_method_14_code
def yX7_row : MethodName := ⟨RX7, "row", "(II)I"⟩
abbrev cX7_at : ByteArray := prog_9_method_15_code
def yX7_at : MethodName := ⟨RX7, "at", "(II)I"⟩
abbrev cX7_lay : ByteArray := prog_9_method_16_code
def yX7_lay : MethodName := ⟨RX7, "lay", "(III)I"⟩
abbrev cX7_tear : ByteArray := prog_9_method_17_code
def yX7_tear : MethodName := ⟨RX7, "tear", "(I)I"⟩
abbrev cX7_copy : ByteArray := prog_9_method_18_code
def yX7_copy : MethodName := ⟨RX7, "copy", "(IIIII)I"⟩
abbrev cX7_mean : ByteArray := prog_9_method_19_code
def yX7_mean : MethodName := ⟨RX7, "mean", "(I)I"⟩
abbrev cX7_text : ByteArray := prog_9_method_20_code
def yX7_text : MethodName := ⟨RX7, "text", "(II)I"⟩
abbrev cX7_put : ByteArray := prog_9_method_21_code
def yX7_put : MethodName := ⟨RX7, "put", "(III)I"⟩
abbrev cX7_here : ByteArray := prog_9_method_22_code
def yX7_here : MethodName := ⟨RX7, "here", "(I)I"⟩
abbrev cX7_kindOf : ByteArray := prog_9_method_23_code
def yX7_kindOf : MethodName := ⟨RX7, "kindOf", "(I)I"⟩
abbrev cX7_isHere : ByteArray := prog_9_method_24_code
def yX7_isHere : MethodName := ⟨RX7, "isHere", "(III)Z"⟩
abbrev cX7_readsHead : ByteArray := prog_9_method_25_code
def yX7_readsHead : MethodName := ⟨RX7, "readsHead", "(I)Z"⟩
abbrev cX7_readsStall : ByteArray := prog_9_method_26_code
def yX7_readsStall : MethodName := ⟨RX7, "readsStall", "(I)Z"⟩
abbrev cX7_readsBuyer : ByteArray := prog_9_method_27_code
def yX7_readsBuyer : MethodName := ⟨RX7, "readsBuyer", "(I)Z"⟩
abbrev cX7_goesOn : ByteArray := prog_9_method_28_code
def yX7_goesOn : MethodName := ⟨RX7, "goesOn", "(I)I"⟩
abbrev cX7_fault : ByteArray := prog_9_method_29_code
def yX7_fault : MethodName := ⟨RX7, "fault", "(I)I"⟩
abbrev cX7_market : ByteArray := prog_9_method_30_code
def yX7_market : MethodName := ⟨RX7, "market", "(I)I"⟩
abbrev cX7_isBuyer : ByteArray := prog_9_method_31_code
def yX7_isBuyer : MethodName := ⟨RX7, "isBuyer", "(I)Z"⟩
abbrev cX7_isStall : ByteArray := prog_9_method_32_code
def yX7_isStall : MethodName := ⟨RX7, "isStall", "(I)Z"⟩
abbrev cX7_isA : ByteArray := prog_9_method_33_code
def yX7_isA : MethodName := ⟨RX7, "isA", "(II)Z"⟩
abbrev cX7_buyerOf : ByteArray := prog_9_method_34_code
def yX7_buyerOf : MethodName := ⟨RX7, "buyerOf", "(II)I"⟩
abbrev cX7_stallOf : ByteArray := prog_9_method_35_code
def yX7_stallOf : MethodName := ⟨RX7, "stallOf", "(II)I"⟩
abbrev cX7_buyer : ByteArray := prog_9_method_36_code
def yX7_buyer : MethodName := ⟨RX7, "buyer", "(II)I"⟩
abbrev cX7_stall : ByteArray := prog_9_method_37_code
def yX7_stall : MethodName := ⟨RX7, "stall", "(II)I"⟩
abbrev cX7_size : ByteArray := prog_9_method_38_code
def yX7_size : MethodName := ⟨RX7, "size", "(I)I"⟩
abbrev cX7_nearest : ByteArray := prog_9_method_39_code
def yX7_nearest : MethodName := ⟨RX7, "nearest", "(III)I"⟩
abbrev cX7_farTo : ByteArray := prog_9_method_40_code
def yX7_farTo : MethodName := ⟨RX7, "farTo", "(II)I"⟩
abbrev cX7_wishOf : ByteArray := prog_9_method_41_code
def yX7_wishOf : MethodName := ⟨RX7, "wishOf", "(I)I"⟩
abbrev cX7_mark : ByteArray := prog_9_method_42_code
def yX7_mark : MethodName := ⟨RX7, "mark", "(II)I"⟩
abbrev cX7_want : ByteArray := prog_9_method_43_code
def yX7_want : MethodName := ⟨RX7, "want", "(II)I"⟩
abbrev cX7_price : ByteArray := prog_9_method_44_code
def yX7_price : MethodName := ⟨RX7, "price", "(II)I"⟩
abbrev cX7_wish : ByteArray := prog_9_method_45_code
def yX7_wish : MethodName := ⟨RX7, "wish", "(I)I"⟩
abbrev cX7_isSpot : ByteArray := prog_9_method_46_code
def yX7_isSpot : MethodName := ⟨RX7, "isSpot", "(I)Z"⟩
abbrev cX7_isHeld : ByteArray := prog_9_method_47_code
def yX7_isHeld : MethodName := ⟨RX7, "isHeld", "(III)Z"⟩
abbrev cX7_stepPlain : ByteArray := prog_9_method_48_code
def yX7_stepPlain : MethodName := ⟨RX7, "stepPlain", "(II)V"⟩
abbrev cX7_goers : ByteArray := prog_9_method_49_code
def yX7_goers : MethodName := ⟨RX7, "goers", "(II)I"⟩
abbrev cX7_stepRich : ByteArray := prog_9_method_50_code
def yX7_stepRich : MethodName := ⟨RX7, "stepRich", "(I)V"⟩
abbrev cX7_sunNow : ByteArray := prog_9_method_51_code
def yX7_sunNow : MethodName := ⟨RX7, "sunNow", "()I"⟩
abbrev cX7_isShaded : ByteArray := prog_9_method_52_code
def yX7_isShaded : MethodName := ⟨RX7, "isShaded", "(II)Z"⟩
abbrev cX7_passMinute : ByteArray := prog_9_method_53_code
def yX7_passMinute : MethodName := ⟨RX7, "passMinute", "(II)V"⟩
abbrev cX7_boughtAt : ByteArray := prog_9_method_54_code
def yX7_boughtAt : MethodName := ⟨RX7, "boughtAt", "(II)I"⟩
abbrev cX7_write : ByteArray := prog_9_method_55_code
def yX7_write : MethodName := ⟨RX7, "write", "([II)V"⟩
abbrev cX7_read : ByteArray := prog_9_method_56_code
def yX7_read : MethodName := ⟨RX7, "read", "([II)V"⟩
abbrev cX7_minutes : ByteArray := prog_9_method_57_code
def yX7_minutes : MethodName := ⟨RX7, "minutes", "(I)I"⟩
abbrev cX7_undo : ByteArray := prog_9_method_58_code
def yX7_undo : MethodName := ⟨RX7, "undo", "(I)I"⟩
abbrev cX7_turn : ByteArray := prog_9_method_59_code
def yX7_turn : MethodName := ⟨RX7, "turn", "(I)I"⟩
abbrev cX7_shade : ByteArray := prog_9_method_60_code
def yX7_shade : MethodName := ⟨RX7, "shade", "()I"⟩
abbrev cX7_shadedBy : ByteArray := prog_9_method_61_code
def yX7_shadedBy : MethodName := ⟨RX7, "shadedBy", "(I)I"⟩
abbrev cX7_shaded : ByteArray := prog_9_method_62_code
def yX7_shaded : MethodName := ⟨RX7, "shaded", "()I"⟩
abbrev cX7_keep : ByteArray := prog_9_method_63_code
def yX7_keep : MethodName := ⟨RX7, "keep", "(I)I"⟩
abbrev cX7_on : ByteArray := prog_9_method_64_code
def yX7_on : MethodName := ⟨RX7, "on", "(I)I"⟩
abbrev cX7_putAside : ByteArray := prog_9_method_65_code
def yX7_putAside : MethodName := ⟨RX7, "putAside", "()V"⟩
abbrev cX7_comeBack : ByteArray := prog_9_method_66_code
def yX7_comeBack : MethodName := ⟨RX7, "comeBack", "()V"⟩
abbrev cX7_when : ByteArray := prog_9_method_67_code
def yX7_when : MethodName := ⟨RX7, "when", "(I)I"⟩
abbrev cX7_lookAhead : ByteArray := prog_9_method_68_code
def yX7_lookAhead : MethodName := ⟨RX7, "lookAhead", "(I)V"⟩
abbrev cX7_bought : ByteArray := prog_9_method_69_code
def yX7_bought : MethodName := ⟨RX7, "bought", "(I)I"⟩
abbrev cX7_isPast : ByteArray := prog_9_method_70_code
def yX7_isPast : MethodName := ⟨RX7, "isPast", "(I)Z"⟩
abbrev cX7_setPast : ByteArray := prog_9_method_71_code
def yX7_setPast : MethodName := ⟨RX7, "setPast", "(I)V"⟩
abbrev cX7_wanting : ByteArray := prog_9_method_72_code
def yX7_wanting : MethodName := ⟨RX7, "wanting", "()I"⟩
abbrev cX7_rest : ByteArray := prog_9_method_73_code
def yX7_rest : MethodName := ⟨RX7, "rest", "()I"⟩
abbrev cX7_track : ByteArray := prog_9_method_74_code
def yX7_track : MethodName := ⟨RX7, "track", "(II)I"⟩
abbrev cX7_isSpan : ByteArray := prog_9_method_75_code
def yX7_isSpan : MethodName := ⟨RX7, "isSpan", "(I)Z"⟩
abbrev cX7_orderOn : ByteArray := prog_9_method_76_code
def yX7_orderOn : MethodName := ⟨RX7, "orderOn", "(II)V"⟩
abbrev cX7_best : ByteArray := prog_9_method_77_code
def yX7_best : MethodName := ⟨RX7, "best", "(II)I"⟩
abbrev cX7_spot : ByteArray := prog_9_method_78_code
def yX7_spot : MethodName := ⟨RX7, "spot", "(II)I"⟩
abbrev cX7_missed : ByteArray := prog_9_method_79_code
def yX7_missed : MethodName := ⟨RX7, "missed", "(I)I"⟩
abbrev cX7_holds : ByteArray := prog_9_method_80_code
def yX7_holds : MethodName := ⟨RX7, "holds", "(I)Z"⟩
abbrev cX7_fewest : ByteArray := prog_9_method_81_code
def yX7_fewest : MethodName := ⟨RX7, "fewest", "()I"⟩
abbrev cX7_turns : ByteArray := prog_9_method_82_code
def yX7_turns : MethodName := ⟨RX7, "turns", "()I"⟩
abbrev cX7_askedTrack : ByteArray := prog_9_method_83_code
def yX7_askedTrack : MethodName := ⟨RX7, "askedTrack", "(III)I"⟩
abbrev cX7_setFits : ByteArray := prog_9_method_84_code
def yX7_setFits : MethodName := ⟨RX7, "setFits", "(III)V"⟩
abbrev cX7_fitOn : ByteArray := prog_9_method_85_code
def yX7_fitOn : MethodName := ⟨RX7, "fitOn", "(IIIII)V"⟩
abbrev cX7_isTrack : ByteArray := prog_9_method_86_code
def yX7_isTrack : MethodName := ⟨RX7, "isTrack", "(II)Z"⟩
abbrev cX7_fits : ByteArray := prog_9_method_87_code
def yX7_fits : MethodName := ⟨RX7, "fits", "(III)I"⟩
abbrev cX7_could : ByteArray := prog_9_method_88_code
def yX7_could : MethodName := ⟨RX7, "could", "(IIII)I"⟩
abbrev cX7_winds : ByteArray := prog_9_method_89_code
def yX7_winds : MethodName := ⟨RX7, "winds", "(II)I"⟩
abbrev cX7_asked : ByteArray := prog_9_method_90_code
def yX7_asked : MethodName := ⟨RX7, "asked", "()I"⟩
abbrev cX7_allPaid : ByteArray := prog_9_method_91_code
def yX7_allPaid : MethodName := ⟨RX7, "allPaid", "()I"⟩
abbrev cX7_allPrices : ByteArray := prog_9_method_92_code
def yX7_allPrices : MethodName := ⟨RX7, "allPrices", "()I"⟩
abbrev cX7_divisor : ByteArray := prog_9_method_93_code
def yX7_divisor : MethodName := ⟨RX7, "divisor", "(II)I"⟩
abbrev cX7_upper : ByteArray := prog_9_method_94_code
def yX7_upper : MethodName := ⟨RX7, "upper", "()J"⟩
abbrev cX7_lower : ByteArray := prog_9_method_95_code
def yX7_lower : MethodName := ⟨RX7, "lower", "()J"⟩
abbrev cX7_tells : ByteArray := prog_9_method_96_code
def yX7_tells : MethodName := ⟨RX7, "tells", "(I)I"⟩
abbrev cX7_count : ByteArray := prog_9_method_97_code
def yX7_count : MethodName := ⟨RX7, "count", "(I)I"⟩
abbrev cX7_finding : ByteArray := prog_9_method_98_code
def yX7_finding : MethodName := ⟨RX7, "finding", "()I"⟩
abbrev cX7_findings : ByteArray := prog_9_method_99_code
def yX7_findings : MethodName := ⟨RX7, "findings", "(I)I"⟩
abbrev cX7_mix : ByteArray := prog_9_method_100_code
def yX7_mix : MethodName := ⟨RX7, "mix", "(I)V"⟩
abbrev cX7_mixMarket : ByteArray := prog_9_method_101_code
def yX7_mixMarket : MethodName := ⟨RX7, "mixMarket", "()V"⟩
abbrev cX7_digest : ByteArray := prog_9_method_102_code
def yX7_digest : MethodName := ⟨RX7, "digest", "()J"⟩
def RJ6 : String := "java/lang/Integer"
abbrev cJ6_bitCount_0f7a4 : ByteArray := prog_10_method_49_code
def yJ6_bitCount_0f7a4 : MethodName := ⟨RJ6, "bitCount", "(I)I"⟩
def RJ9 : String := "java/lang/Math"
abbrev cJ9_abs_0f7a4 : ByteArray := prog_11_method_59_code
def yJ9_abs_0f7a4 : MethodName := ⟨RJ9, "abs", "(I)I"⟩
abbrev cJ9_max_f86c9 : ByteArray := prog_11_method_66_code
def yJ9_max_f86c9 : MethodName := ⟨RJ9, "max", "(JJ)J"⟩
def RJ10 : String := "java/lang/System"
def RL : String := "ClothMarketLaw"
abbrev cL_law : ByteArray := code
abbrev vwCl : List vw_C := [(RX0, TX0, 4), (RX1, TX1, 2), (RX2, TX2, 14), (RX3, TX3, 4), (RX4, TX4, 2), (RX5, TX5, 4), (RX6, TX6, 11), (RX7, TX7, 44)]
