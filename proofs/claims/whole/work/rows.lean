section
-- ===== PART A: goes FIRST, ahead of the names: the tables' words, and 'selects' of the private methods out of them =====
/-- a private method of a class that the tables say can be made, by its rows of tables_1 -/
def lw_okq (q : MethodName × Nat) : Prop := (q.1.cls ≠ "java/lang/invoke/MethodHandle" ∧ q.1.cls ≠ "java/lang/invoke/VarHandle") ∧ Cond.instantiable q.1.cls q.2 ∈ tables_1 ∧ Cond.privateMethod q.1 ∈ tables_1 ∧ Cond.instanceMethod q.1 ∈ tables_1
theorem lw_p0 : lw_okq (⟨"ClothMarket", "refuse", "(I)I"⟩, 11) := ⟨⟨by decide +kernel, by decide +kernel⟩, List.mem_of_getElem? (i := 13) (by decide +kernel), List.mem_of_getElem? (i := 234) (by decide +kernel), List.mem_of_getElem? (i := 235) (by decide +kernel)⟩
theorem lw_p1 : lw_okq (⟨"ClothMarket", "missingPlace", "(LClothMarket$Strip;I)I"⟩, 11) := ⟨⟨by decide +kernel, by decide +kernel⟩, List.mem_of_getElem? (i := 13) (by decide +kernel), List.mem_of_getElem? (i := 249) (by decide +kernel), List.mem_of_getElem? (i := 250) (by decide +kernel)⟩
theorem lw_p2 : lw_okq (⟨"ClothMarket", "tell", "(I)I"⟩, 11) := ⟨⟨by decide +kernel, by decide +kernel⟩, List.mem_of_getElem? (i := 13) (by decide +kernel), List.mem_of_getElem? (i := 271) (by decide +kernel), List.mem_of_getElem? (i := 272) (by decide +kernel)⟩
theorem lw_p3 : lw_okq (⟨"ClothMarket$Reader", "skipBlanks", "()V"⟩, 4) := ⟨⟨by decide +kernel, by decide +kernel⟩, List.mem_of_getElem? (i := 110) (by decide +kernel), List.mem_of_getElem? (i := 336) (by decide +kernel), List.mem_of_getElem? (i := 337) (by decide +kernel)⟩
theorem lw_p4 : lw_okq (⟨"ClothMarket$Reader", "take", "(II)I"⟩, 4) := ⟨⟨by decide +kernel, by decide +kernel⟩, List.mem_of_getElem? (i := 110) (by decide +kernel), List.mem_of_getElem? (i := 341) (by decide +kernel), List.mem_of_getElem? (i := 342) (by decide +kernel)⟩
theorem lw_p5 : lw_okq (⟨"ClothMarket$Reader", "readItem", "()V"⟩, 4) := ⟨⟨by decide +kernel, by decide +kernel⟩, List.mem_of_getElem? (i := 110) (by decide +kernel), List.mem_of_getElem? (i := 346) (by decide +kernel), List.mem_of_getElem? (i := 347) (by decide +kernel)⟩
theorem lw_p6 : lw_okq (⟨"ClothMarket$Reader", "readStall", "()V"⟩, 4) := ⟨⟨by decide +kernel, by decide +kernel⟩, List.mem_of_getElem? (i := 110) (by decide +kernel), List.mem_of_getElem? (i := 355) (by decide +kernel), List.mem_of_getElem? (i := 356) (by decide +kernel)⟩
theorem lw_p7 : lw_okq (⟨"ClothMarket$Reader", "readBuyer", "(I)V"⟩, 4) := ⟨⟨by decide +kernel, by decide +kernel⟩, List.mem_of_getElem? (i := 110) (by decide +kernel), List.mem_of_getElem? (i := 363) (by decide +kernel), List.mem_of_getElem? (i := 364) (by decide +kernel)⟩
theorem lw_p8 : lw_okq (⟨"ClothMarket$Market", "slackBehind", "(II)I"⟩, 14) := ⟨⟨by decide +kernel, by decide +kernel⟩, List.mem_of_getElem? (i := 23) (by decide +kernel), List.mem_of_getElem? (i := 371) (by decide +kernel), List.mem_of_getElem? (i := 372) (by decide +kernel)⟩
theorem lw_p9 : lw_okq (⟨"ClothMarket$Reader", "takeWant", "()I"⟩, 4) := ⟨⟨by decide +kernel, by decide +kernel⟩, List.mem_of_getElem? (i := 110) (by decide +kernel), List.mem_of_getElem? (i := 375) (by decide +kernel), List.mem_of_getElem? (i := 376) (by decide +kernel)⟩
theorem lw_p10 : lw_okq (⟨"ClothMarket$Market", "wayToNearest", "(II)I"⟩, 14) := ⟨⟨by decide +kernel, by decide +kernel⟩, List.mem_of_getElem? (i := 23) (by decide +kernel), List.mem_of_getElem? (i := 400) (by decide +kernel), List.mem_of_getElem? (i := 401) (by decide +kernel)⟩
theorem lw_p11 : lw_okq (⟨"ClothMarket$Market", "nearestStall", "(II)I"⟩, 14) := ⟨⟨by decide +kernel, by decide +kernel⟩, List.mem_of_getElem? (i := 23) (by decide +kernel), List.mem_of_getElem? (i := 404) (by decide +kernel), List.mem_of_getElem? (i := 405) (by decide +kernel)⟩
theorem lw_p12 : lw_okq (⟨"ClothMarket$Market", "isNearer", "(III)Z"⟩, 14) := ⟨⟨by decide +kernel, by decide +kernel⟩, List.mem_of_getElem? (i := 23) (by decide +kernel), List.mem_of_getElem? (i := 411) (by decide +kernel), List.mem_of_getElem? (i := 412) (by decide +kernel)⟩
theorem lw_p13 : lw_okq (⟨"ClothMarket", "isBuyer", "(I)Z"⟩, 11) := ⟨⟨by decide +kernel, by decide +kernel⟩, List.mem_of_getElem? (i := 13) (by decide +kernel), List.mem_of_getElem? (i := 427) (by decide +kernel), List.mem_of_getElem? (i := 428) (by decide +kernel)⟩
theorem lw_p14 : lw_okq (⟨"ClothMarket", "isStall", "(I)Z"⟩, 11) := ⟨⟨by decide +kernel, by decide +kernel⟩, List.mem_of_getElem? (i := 13) (by decide +kernel), List.mem_of_getElem? (i := 439) (by decide +kernel), List.mem_of_getElem? (i := 440) (by decide +kernel)⟩
theorem lw_p15 : lw_okq (⟨"ClothMarket$Market", "firstTaken", "(II)I"⟩, 14) := ⟨⟨by decide +kernel, by decide +kernel⟩, List.mem_of_getElem? (i := 23) (by decide +kernel), List.mem_of_getElem? (i := 459) (by decide +kernel), List.mem_of_getElem? (i := 460) (by decide +kernel)⟩
def lw_privs_1 : List (MethodName × Nat) := [(⟨"ClothMarket", "refuse", "(I)I"⟩, 11), (⟨"ClothMarket", "missingPlace", "(LClothMarket$Strip;I)I"⟩, 11), (⟨"ClothMarket", "tell", "(I)I"⟩, 11), (⟨"ClothMarket$Reader", "skipBlanks", "()V"⟩, 4), (⟨"ClothMarket$Reader", "take", "(II)I"⟩, 4), (⟨"ClothMarket$Reader", "readItem", "()V"⟩, 4), (⟨"ClothMarket$Reader", "readStall", "()V"⟩, 4), (⟨"ClothMarket$Reader", "readBuyer", "(I)V"⟩, 4), (⟨"ClothMarket$Market", "slackBehind", "(II)I"⟩, 14), (⟨"ClothMarket$Reader", "takeWant", "()I"⟩, 4), (⟨"ClothMarket$Market", "wayToNearest", "(II)I"⟩, 14), (⟨"ClothMarket$Market", "nearestStall", "(II)I"⟩, 14), (⟨"ClothMarket$Market", "isNearer", "(III)Z"⟩, 14), (⟨"ClothMarket", "isBuyer", "(I)Z"⟩, 11), (⟨"ClothMarket", "isStall", "(I)Z"⟩, 11), (⟨"ClothMarket$Market", "firstTaken", "(II)I"⟩, 14)]
theorem lw_r1 : ∀ q ∈ lw_privs_1, lw_okq q := List.forall_mem_cons.mpr ⟨lw_p0, List.forall_mem_cons.mpr ⟨lw_p1, List.forall_mem_cons.mpr ⟨lw_p2, List.forall_mem_cons.mpr ⟨lw_p3, List.forall_mem_cons.mpr ⟨lw_p4, List.forall_mem_cons.mpr ⟨lw_p5, List.forall_mem_cons.mpr ⟨lw_p6, List.forall_mem_cons.mpr ⟨lw_p7, List.forall_mem_cons.mpr ⟨lw_p8, List.forall_mem_cons.mpr ⟨lw_p9, List.forall_mem_cons.mpr ⟨lw_p10, List.forall_mem_cons.mpr ⟨lw_p11, List.forall_mem_cons.mpr ⟨lw_p12, List.forall_mem_cons.mpr ⟨lw_p13, List.forall_mem_cons.mpr ⟨lw_p14, List.forall_mem_cons.mpr ⟨lw_p15, fun _ h => absurd h List.not_mem_nil⟩⟩⟩⟩⟩⟩⟩⟩⟩⟩⟩⟩⟩⟩⟩⟩
theorem lw_p16 : lw_okq (⟨"ClothMarket$Market", "holds", "(III)Z"⟩, 14) := ⟨⟨by decide +kernel, by decide +kernel⟩, List.mem_of_getElem? (i := 23) (by decide +kernel), List.mem_of_getElem? (i := 463) (by decide +kernel), List.mem_of_getElem? (i := 464) (by decide +kernel)⟩
theorem lw_p17 : lw_okq (⟨"ClothMarket$Market", "isRich", "(I)Z"⟩, 14) := ⟨⟨by decide +kernel, by decide +kernel⟩, List.mem_of_getElem? (i := 23) (by decide +kernel), List.mem_of_getElem? (i := 467) (by decide +kernel), List.mem_of_getElem? (i := 468) (by decide +kernel)⟩
theorem lw_p18 : lw_okq (⟨"ClothMarket$Market", "lastTaken", "(II)I"⟩, 14) := ⟨⟨by decide +kernel, by decide +kernel⟩, List.mem_of_getElem? (i := 23) (by decide +kernel), List.mem_of_getElem? (i := 471) (by decide +kernel), List.mem_of_getElem? (i := 472) (by decide +kernel)⟩
theorem lw_p19 : lw_okq (⟨"ClothMarket$Market", "canGo", "(III)Z"⟩, 14) := ⟨⟨by decide +kernel, by decide +kernel⟩, List.mem_of_getElem? (i := 23) (by decide +kernel), List.mem_of_getElem? (i := 475) (by decide +kernel), List.mem_of_getElem? (i := 476) (by decide +kernel)⟩
theorem lw_p20 : lw_okq (⟨"ClothMarket$Market", "pull", "(II)V"⟩, 14) := ⟨⟨by decide +kernel, by decide +kernel⟩, List.mem_of_getElem? (i := 23) (by decide +kernel), List.mem_of_getElem? (i := 523) (by decide +kernel), List.mem_of_getElem? (i := 524) (by decide +kernel)⟩
theorem lw_p21 : lw_okq (⟨"ClothMarket$Market", "walk", "(II)V"⟩, 14) := ⟨⟨by decide +kernel, by decide +kernel⟩, List.mem_of_getElem? (i := 23) (by decide +kernel), List.mem_of_getElem? (i := 527) (by decide +kernel), List.mem_of_getElem? (i := 528) (by decide +kernel)⟩
theorem lw_p22 : lw_okq (⟨"ClothMarket$Market", "sell", "(I)I"⟩, 14) := ⟨⟨by decide +kernel, by decide +kernel⟩, List.mem_of_getElem? (i := 23) (by decide +kernel), List.mem_of_getElem? (i := 536) (by decide +kernel), List.mem_of_getElem? (i := 537) (by decide +kernel)⟩
theorem lw_p23 : lw_okq (⟨"ClothMarket$Market", "isShaded", "(II)Z"⟩, 14) := ⟨⟨by decide +kernel, by decide +kernel⟩, List.mem_of_getElem? (i := 23) (by decide +kernel), List.mem_of_getElem? (i := 540) (by decide +kernel), List.mem_of_getElem? (i := 541) (by decide +kernel)⟩
theorem lw_p24 : lw_okq (⟨"ClothMarket", "isKept", "(I)Z"⟩, 11) := ⟨⟨by decide +kernel, by decide +kernel⟩, List.mem_of_getElem? (i := 13) (by decide +kernel), List.mem_of_getElem? (i := 594) (by decide +kernel), List.mem_of_getElem? (i := 595) (by decide +kernel)⟩
theorem lw_p25 : lw_okq (⟨"ClothMarket$Forecast", "pass", "(I)I"⟩, 4) := ⟨⟨by decide +kernel, by decide +kernel⟩, List.mem_of_getElem? (i := 145) (by decide +kernel), List.mem_of_getElem? (i := 617) (by decide +kernel), List.mem_of_getElem? (i := 618) (by decide +kernel)⟩
theorem lw_p26 : lw_okq (⟨"ClothMarket$Forecast", "shareWants", "(LClothMarket$Market;)V"⟩, 4) := ⟨⟨by decide +kernel, by decide +kernel⟩, List.mem_of_getElem? (i := 145) (by decide +kernel), List.mem_of_getElem? (i := 663) (by decide +kernel), List.mem_of_getElem? (i := 664) (by decide +kernel)⟩
theorem lw_p27 : lw_okq (⟨"ClothMarket$Forecast", "layOrder", "(LClothMarket$Strip;)V"⟩, 4) := ⟨⟨by decide +kernel, by decide +kernel⟩, List.mem_of_getElem? (i := 145) (by decide +kernel), List.mem_of_getElem? (i := 667) (by decide +kernel), List.mem_of_getElem? (i := 668) (by decide +kernel)⟩
theorem lw_p28 : lw_okq (⟨"ClothMarket$Forecast", "nextOrder", "(I)Z"⟩, 4) := ⟨⟨by decide +kernel, by decide +kernel⟩, List.mem_of_getElem? (i := 145) (by decide +kernel), List.mem_of_getElem? (i := 672) (by decide +kernel), List.mem_of_getElem? (i := 673) (by decide +kernel)⟩
theorem lw_p29 : lw_okq (⟨"ClothMarket$Forecast", "swap", "(II)V"⟩, 4) := ⟨⟨by decide +kernel, by decide +kernel⟩, List.mem_of_getElem? (i := 145) (by decide +kernel), List.mem_of_getElem? (i := 676) (by decide +kernel), List.mem_of_getElem? (i := 677) (by decide +kernel)⟩
theorem lw_p30 : lw_okq (⟨"ClothMarket$Forecast", "whoBought", "(LClothMarket$Market;)I"⟩, 4) := ⟨⟨by decide +kernel, by decide +kernel⟩, List.mem_of_getElem? (i := 145) (by decide +kernel), List.mem_of_getElem? (i := 697) (by decide +kernel), List.mem_of_getElem? (i := 698) (by decide +kernel)⟩
theorem lw_p31 : lw_okq (⟨"ClothMarket$Market", "doHold", "(I)Z"⟩, 14) := ⟨⟨by decide +kernel, by decide +kernel⟩, List.mem_of_getElem? (i := 23) (by decide +kernel), List.mem_of_getElem? (i := 716) (by decide +kernel), List.mem_of_getElem? (i := 717) (by decide +kernel)⟩
def lw_privs_2 : List (MethodName × Nat) := [(⟨"ClothMarket$Market", "holds", "(III)Z"⟩, 14), (⟨"ClothMarket$Market", "isRich", "(I)Z"⟩, 14), (⟨"ClothMarket$Market", "lastTaken", "(II)I"⟩, 14), (⟨"ClothMarket$Market", "canGo", "(III)Z"⟩, 14), (⟨"ClothMarket$Market", "pull", "(II)V"⟩, 14), (⟨"ClothMarket$Market", "walk", "(II)V"⟩, 14), (⟨"ClothMarket$Market", "sell", "(I)I"⟩, 14), (⟨"ClothMarket$Market", "isShaded", "(II)Z"⟩, 14), (⟨"ClothMarket", "isKept", "(I)Z"⟩, 11), (⟨"ClothMarket$Forecast", "pass", "(I)I"⟩, 4), (⟨"ClothMarket$Forecast", "shareWants", "(LClothMarket$Market;)V"⟩, 4), (⟨"ClothMarket$Forecast", "layOrder", "(LClothMarket$Strip;)V"⟩, 4), (⟨"ClothMarket$Forecast", "nextOrder", "(I)Z"⟩, 4), (⟨"ClothMarket$Forecast", "swap", "(II)V"⟩, 4), (⟨"ClothMarket$Forecast", "whoBought", "(LClothMarket$Market;)I"⟩, 4), (⟨"ClothMarket$Market", "doHold", "(I)Z"⟩, 14)]
theorem lw_r2 : ∀ q ∈ lw_privs_2, lw_okq q := List.forall_mem_cons.mpr ⟨lw_p16, List.forall_mem_cons.mpr ⟨lw_p17, List.forall_mem_cons.mpr ⟨lw_p18, List.forall_mem_cons.mpr ⟨lw_p19, List.forall_mem_cons.mpr ⟨lw_p20, List.forall_mem_cons.mpr ⟨lw_p21, List.forall_mem_cons.mpr ⟨lw_p22, List.forall_mem_cons.mpr ⟨lw_p23, List.forall_mem_cons.mpr ⟨lw_p24, List.forall_mem_cons.mpr ⟨lw_p25, List.forall_mem_cons.mpr ⟨lw_p26, List.forall_mem_cons.mpr ⟨lw_p27, List.forall_mem_cons.mpr ⟨lw_p28, List.forall_mem_cons.mpr ⟨lw_p29, List.forall_mem_cons.mpr ⟨lw_p30, List.forall_mem_cons.mpr ⟨lw_p31, fun _ h => absurd h List.not_mem_nil⟩⟩⟩⟩⟩⟩⟩⟩⟩⟩⟩⟩⟩⟩⟩⟩
theorem lw_p32 : lw_okq (⟨"ClothMarket", "isSetOfBuyers", "(I)Z"⟩, 11) := ⟨⟨by decide +kernel, by decide +kernel⟩, List.mem_of_getElem? (i := 13) (by decide +kernel), List.mem_of_getElem? (i := 735) (by decide +kernel), List.mem_of_getElem? (i := 736) (by decide +kernel)⟩
theorem lw_p33 : lw_okq (⟨"ClothMarket", "refuseTrack", "(ILClothMarket$Strip;)I"⟩, 11) := ⟨⟨by decide +kernel, by decide +kernel⟩, List.mem_of_getElem? (i := 13) (by decide +kernel), List.mem_of_getElem? (i := 739) (by decide +kernel), List.mem_of_getElem? (i := 740) (by decide +kernel)⟩
theorem lw_p34 : lw_okq (⟨"ClothMarket$Tracker", "giveWants", "(II)V"⟩, 4) := ⟨⟨by decide +kernel, by decide +kernel⟩, List.mem_of_getElem? (i := 168) (by decide +kernel), List.mem_of_getElem? (i := 753) (by decide +kernel), List.mem_of_getElem? (i := 754) (by decide +kernel)⟩
theorem lw_p35 : lw_okq (⟨"ClothMarket$Tracker", "isAsSeen", "(LClothMarket$Strip;)Z"⟩, 4) := ⟨⟨by decide +kernel, by decide +kernel⟩, List.mem_of_getElem? (i := 168) (by decide +kernel), List.mem_of_getElem? (i := 758) (by decide +kernel), List.mem_of_getElem? (i := 759) (by decide +kernel)⟩
theorem lw_p36 : lw_okq (⟨"ClothMarket$Tracker", "noteWants", "(II)V"⟩, 4) := ⟨⟨by decide +kernel, by decide +kernel⟩, List.mem_of_getElem? (i := 168) (by decide +kernel), List.mem_of_getElem? (i := 763) (by decide +kernel), List.mem_of_getElem? (i := 764) (by decide +kernel)⟩
theorem lw_p37 : lw_okq (⟨"ClothMarket", "numberOf", "(I)I"⟩, 11) := ⟨⟨by decide +kernel, by decide +kernel⟩, List.mem_of_getElem? (i := 13) (by decide +kernel), List.mem_of_getElem? (i := 811) (by decide +kernel), List.mem_of_getElem? (i := 812) (by decide +kernel)⟩
theorem lw_p38 : lw_okq (⟨"ClothMarket", "howManyKept", "()I"⟩, 11) := ⟨⟨by decide +kernel, by decide +kernel⟩, List.mem_of_getElem? (i := 13) (by decide +kernel), List.mem_of_getElem? (i := 820) (by decide +kernel), List.mem_of_getElem? (i := 821) (by decide +kernel)⟩
theorem lw_p39 : lw_okq (⟨"ClothMarketModel", "meet", "(I)I"⟩, 44) := ⟨⟨by decide +kernel, by decide +kernel⟩, List.mem_of_getElem? (i := 854) (by decide +kernel), List.mem_of_getElem? (i := 1003) (by decide +kernel), List.mem_of_getElem? (i := 1004) (by decide +kernel)⟩
theorem lw_p40 : lw_okq (⟨"ClothMarketModel", "setRow", "(III)V"⟩, 44) := ⟨⟨by decide +kernel, by decide +kernel⟩, List.mem_of_getElem? (i := 854) (by decide +kernel), List.mem_of_getElem? (i := 1007) (by decide +kernel), List.mem_of_getElem? (i := 1008) (by decide +kernel)⟩
theorem lw_p41 : lw_okq (⟨"ClothMarketModel", "askedRow", "(I)I"⟩, 44) := ⟨⟨by decide +kernel, by decide +kernel⟩, List.mem_of_getElem? (i := 854) (by decide +kernel), List.mem_of_getElem? (i := 1015) (by decide +kernel), List.mem_of_getElem? (i := 1016) (by decide +kernel)⟩
theorem lw_p42 : lw_okq (⟨"ClothMarketModel", "rowAt", "(II)I"⟩, 44) := ⟨⟨by decide +kernel, by decide +kernel⟩, List.mem_of_getElem? (i := 854) (by decide +kernel), List.mem_of_getElem? (i := 1019) (by decide +kernel), List.mem_of_getElem? (i := 1020) (by decide +kernel)⟩
theorem lw_p43 : lw_okq (⟨"ClothMarketModel", "ask", "(II)I"⟩, 44) := ⟨⟨by decide +kernel, by decide +kernel⟩, List.mem_of_getElem? (i := 854) (by decide +kernel), List.mem_of_getElem? (i := 1023) (by decide +kernel), List.mem_of_getElem? (i := 1024) (by decide +kernel)⟩
theorem lw_p44 : lw_okq (⟨"ClothMarketModel", "askedText", "(I)I"⟩, 44) := ⟨⟨by decide +kernel, by decide +kernel⟩, List.mem_of_getElem? (i := 854) (by decide +kernel), List.mem_of_getElem? (i := 1055) (by decide +kernel), List.mem_of_getElem? (i := 1056) (by decide +kernel)⟩
theorem lw_p45 : lw_okq (⟨"ClothMarketModel", "goesOn", "(I)I"⟩, 44) := ⟨⟨by decide +kernel, by decide +kernel⟩, List.mem_of_getElem? (i := 854) (by decide +kernel), List.mem_of_getElem? (i := 1063) (by decide +kernel), List.mem_of_getElem? (i := 1064) (by decide +kernel)⟩
theorem lw_p46 : lw_okq (⟨"ClothMarketModel", "here", "(I)I"⟩, 44) := ⟨⟨by decide +kernel, by decide +kernel⟩, List.mem_of_getElem? (i := 854) (by decide +kernel), List.mem_of_getElem? (i := 1067) (by decide +kernel), List.mem_of_getElem? (i := 1068) (by decide +kernel)⟩
theorem lw_p47 : lw_okq (⟨"ClothMarketModel", "readsHead", "(I)Z"⟩, 44) := ⟨⟨by decide +kernel, by decide +kernel⟩, List.mem_of_getElem? (i := 854) (by decide +kernel), List.mem_of_getElem? (i := 1071) (by decide +kernel), List.mem_of_getElem? (i := 1072) (by decide +kernel)⟩
def lw_privs_3 : List (MethodName × Nat) := [(⟨"ClothMarket", "isSetOfBuyers", "(I)Z"⟩, 11), (⟨"ClothMarket", "refuseTrack", "(ILClothMarket$Strip;)I"⟩, 11), (⟨"ClothMarket$Tracker", "giveWants", "(II)V"⟩, 4), (⟨"ClothMarket$Tracker", "isAsSeen", "(LClothMarket$Strip;)Z"⟩, 4), (⟨"ClothMarket$Tracker", "noteWants", "(II)V"⟩, 4), (⟨"ClothMarket", "numberOf", "(I)I"⟩, 11), (⟨"ClothMarket", "howManyKept", "()I"⟩, 11), (⟨"ClothMarketModel", "meet", "(I)I"⟩, 44), (⟨"ClothMarketModel", "setRow", "(III)V"⟩, 44), (⟨"ClothMarketModel", "askedRow", "(I)I"⟩, 44), (⟨"ClothMarketModel", "rowAt", "(II)I"⟩, 44), (⟨"ClothMarketModel", "ask", "(II)I"⟩, 44), (⟨"ClothMarketModel", "askedText", "(I)I"⟩, 44), (⟨"ClothMarketModel", "goesOn", "(I)I"⟩, 44), (⟨"ClothMarketModel", "here", "(I)I"⟩, 44), (⟨"ClothMarketModel", "readsHead", "(I)Z"⟩, 44)]
theorem lw_r3 : ∀ q ∈ lw_privs_3, lw_okq q := List.forall_mem_cons.mpr ⟨lw_p32, List.forall_mem_cons.mpr ⟨lw_p33, List.forall_mem_cons.mpr ⟨lw_p34, List.forall_mem_cons.mpr ⟨lw_p35, List.forall_mem_cons.mpr ⟨lw_p36, List.forall_mem_cons.mpr ⟨lw_p37, List.forall_mem_cons.mpr ⟨lw_p38, List.forall_mem_cons.mpr ⟨lw_p39, List.forall_mem_cons.mpr ⟨lw_p40, List.forall_mem_cons.mpr ⟨lw_p41, List.forall_mem_cons.mpr ⟨lw_p42, List.forall_mem_cons.mpr ⟨lw_p43, List.forall_mem_cons.mpr ⟨lw_p44, List.forall_mem_cons.mpr ⟨lw_p45, List.forall_mem_cons.mpr ⟨lw_p46, List.forall_mem_cons.mpr ⟨lw_p47, fun _ h => absurd h List.not_mem_nil⟩⟩⟩⟩⟩⟩⟩⟩⟩⟩⟩⟩⟩⟩⟩⟩
theorem lw_p48 : lw_okq (⟨"ClothMarketModel", "isHere", "(III)Z"⟩, 44) := ⟨⟨by decide +kernel, by decide +kernel⟩, List.mem_of_getElem? (i := 854) (by decide +kernel), List.mem_of_getElem? (i := 1075) (by decide +kernel), List.mem_of_getElem? (i := 1076) (by decide +kernel)⟩
theorem lw_p49 : lw_okq (⟨"ClothMarketModel", "readsStall", "(I)Z"⟩, 44) := ⟨⟨by decide +kernel, by decide +kernel⟩, List.mem_of_getElem? (i := 854) (by decide +kernel), List.mem_of_getElem? (i := 1079) (by decide +kernel), List.mem_of_getElem? (i := 1080) (by decide +kernel)⟩
theorem lw_p50 : lw_okq (⟨"ClothMarketModel", "readsBuyer", "(I)Z"⟩, 44) := ⟨⟨by decide +kernel, by decide +kernel⟩, List.mem_of_getElem? (i := 854) (by decide +kernel), List.mem_of_getElem? (i := 1083) (by decide +kernel), List.mem_of_getElem? (i := 1084) (by decide +kernel)⟩
theorem lw_p51 : lw_okq (⟨"ClothMarketModel", "isBuyer", "(I)Z"⟩, 44) := ⟨⟨by decide +kernel, by decide +kernel⟩, List.mem_of_getElem? (i := 854) (by decide +kernel), List.mem_of_getElem? (i := 1098) (by decide +kernel), List.mem_of_getElem? (i := 1099) (by decide +kernel)⟩
theorem lw_p52 : lw_okq (⟨"ClothMarketModel", "buyerOf", "(II)I"⟩, 44) := ⟨⟨by decide +kernel, by decide +kernel⟩, List.mem_of_getElem? (i := 854) (by decide +kernel), List.mem_of_getElem? (i := 1102) (by decide +kernel), List.mem_of_getElem? (i := 1103) (by decide +kernel)⟩
theorem lw_p53 : lw_okq (⟨"ClothMarketModel", "isStall", "(I)Z"⟩, 44) := ⟨⟨by decide +kernel, by decide +kernel⟩, List.mem_of_getElem? (i := 854) (by decide +kernel), List.mem_of_getElem? (i := 1110) (by decide +kernel), List.mem_of_getElem? (i := 1111) (by decide +kernel)⟩
theorem lw_p54 : lw_okq (⟨"ClothMarketModel", "stallOf", "(II)I"⟩, 44) := ⟨⟨by decide +kernel, by decide +kernel⟩, List.mem_of_getElem? (i := 854) (by decide +kernel), List.mem_of_getElem? (i := 1114) (by decide +kernel), List.mem_of_getElem? (i := 1115) (by decide +kernel)⟩
theorem lw_p55 : lw_okq (⟨"ClothMarketModel", "isA", "(II)Z"⟩, 44) := ⟨⟨by decide +kernel, by decide +kernel⟩, List.mem_of_getElem? (i := 854) (by decide +kernel), List.mem_of_getElem? (i := 1122) (by decide +kernel), List.mem_of_getElem? (i := 1123) (by decide +kernel)⟩
theorem lw_p56 : lw_okq (⟨"ClothMarketModel", "goers", "(II)I"⟩, 44) := ⟨⟨by decide +kernel, by decide +kernel⟩, List.mem_of_getElem? (i := 854) (by decide +kernel), List.mem_of_getElem? (i := 1129) (by decide +kernel), List.mem_of_getElem? (i := 1130) (by decide +kernel)⟩
theorem lw_p57 : lw_okq (⟨"ClothMarketModel", "isHeld", "(III)Z"⟩, 44) := ⟨⟨by decide +kernel, by decide +kernel⟩, List.mem_of_getElem? (i := 854) (by decide +kernel), List.mem_of_getElem? (i := 1133) (by decide +kernel), List.mem_of_getElem? (i := 1134) (by decide +kernel)⟩
theorem lw_p58 : lw_okq (⟨"ClothMarketModel", "farTo", "(II)I"⟩, 44) := ⟨⟨by decide +kernel, by decide +kernel⟩, List.mem_of_getElem? (i := 854) (by decide +kernel), List.mem_of_getElem? (i := 1146) (by decide +kernel), List.mem_of_getElem? (i := 1147) (by decide +kernel)⟩
theorem lw_p59 : lw_okq (⟨"ClothMarketModel", "nearest", "(III)I"⟩, 44) := ⟨⟨by decide +kernel, by decide +kernel⟩, List.mem_of_getElem? (i := 854) (by decide +kernel), List.mem_of_getElem? (i := 1150) (by decide +kernel), List.mem_of_getElem? (i := 1151) (by decide +kernel)⟩
theorem lw_p60 : lw_okq (⟨"ClothMarketModel", "wishOf", "(I)I"⟩, 44) := ⟨⟨by decide +kernel, by decide +kernel⟩, List.mem_of_getElem? (i := 854) (by decide +kernel), List.mem_of_getElem? (i := 1166) (by decide +kernel), List.mem_of_getElem? (i := 1167) (by decide +kernel)⟩
theorem lw_p61 : lw_okq (⟨"ClothMarketModel", "write", "([II)V"⟩, 44) := ⟨⟨by decide +kernel, by decide +kernel⟩, List.mem_of_getElem? (i := 854) (by decide +kernel), List.mem_of_getElem? (i := 1174) (by decide +kernel), List.mem_of_getElem? (i := 1175) (by decide +kernel)⟩
theorem lw_p62 : lw_okq (⟨"ClothMarketModel", "passMinute", "(II)V"⟩, 44) := ⟨⟨by decide +kernel, by decide +kernel⟩, List.mem_of_getElem? (i := 854) (by decide +kernel), List.mem_of_getElem? (i := 1178) (by decide +kernel), List.mem_of_getElem? (i := 1179) (by decide +kernel)⟩
theorem lw_p63 : lw_okq (⟨"ClothMarketModel", "stepRich", "(I)V"⟩, 44) := ⟨⟨by decide +kernel, by decide +kernel⟩, List.mem_of_getElem? (i := 854) (by decide +kernel), List.mem_of_getElem? (i := 1182) (by decide +kernel), List.mem_of_getElem? (i := 1183) (by decide +kernel)⟩
def lw_privs_4 : List (MethodName × Nat) := [(⟨"ClothMarketModel", "isHere", "(III)Z"⟩, 44), (⟨"ClothMarketModel", "readsStall", "(I)Z"⟩, 44), (⟨"ClothMarketModel", "readsBuyer", "(I)Z"⟩, 44), (⟨"ClothMarketModel", "isBuyer", "(I)Z"⟩, 44), (⟨"ClothMarketModel", "buyerOf", "(II)I"⟩, 44), (⟨"ClothMarketModel", "isStall", "(I)Z"⟩, 44), (⟨"ClothMarketModel", "stallOf", "(II)I"⟩, 44), (⟨"ClothMarketModel", "isA", "(II)Z"⟩, 44), (⟨"ClothMarketModel", "goers", "(II)I"⟩, 44), (⟨"ClothMarketModel", "isHeld", "(III)Z"⟩, 44), (⟨"ClothMarketModel", "farTo", "(II)I"⟩, 44), (⟨"ClothMarketModel", "nearest", "(III)I"⟩, 44), (⟨"ClothMarketModel", "wishOf", "(I)I"⟩, 44), (⟨"ClothMarketModel", "write", "([II)V"⟩, 44), (⟨"ClothMarketModel", "passMinute", "(II)V"⟩, 44), (⟨"ClothMarketModel", "stepRich", "(I)V"⟩, 44)]
theorem lw_r4 : ∀ q ∈ lw_privs_4, lw_okq q := List.forall_mem_cons.mpr ⟨lw_p48, List.forall_mem_cons.mpr ⟨lw_p49, List.forall_mem_cons.mpr ⟨lw_p50, List.forall_mem_cons.mpr ⟨lw_p51, List.forall_mem_cons.mpr ⟨lw_p52, List.forall_mem_cons.mpr ⟨lw_p53, List.forall_mem_cons.mpr ⟨lw_p54, List.forall_mem_cons.mpr ⟨lw_p55, List.forall_mem_cons.mpr ⟨lw_p56, List.forall_mem_cons.mpr ⟨lw_p57, List.forall_mem_cons.mpr ⟨lw_p58, List.forall_mem_cons.mpr ⟨lw_p59, List.forall_mem_cons.mpr ⟨lw_p60, List.forall_mem_cons.mpr ⟨lw_p61, List.forall_mem_cons.mpr ⟨lw_p62, List.forall_mem_cons.mpr ⟨lw_p63, fun _ h => absurd h List.not_mem_nil⟩⟩⟩⟩⟩⟩⟩⟩⟩⟩⟩⟩⟩⟩⟩⟩
theorem lw_p64 : lw_okq (⟨"ClothMarketModel", "stepPlain", "(II)V"⟩, 44) := ⟨⟨by decide +kernel, by decide +kernel⟩, List.mem_of_getElem? (i := 854) (by decide +kernel), List.mem_of_getElem? (i := 1186) (by decide +kernel), List.mem_of_getElem? (i := 1187) (by decide +kernel)⟩
theorem lw_p65 : lw_okq (⟨"ClothMarketModel", "sunNow", "()I"⟩, 44) := ⟨⟨by decide +kernel, by decide +kernel⟩, List.mem_of_getElem? (i := 854) (by decide +kernel), List.mem_of_getElem? (i := 1190) (by decide +kernel), List.mem_of_getElem? (i := 1191) (by decide +kernel)⟩
theorem lw_p66 : lw_okq (⟨"ClothMarketModel", "boughtAt", "(II)I"⟩, 44) := ⟨⟨by decide +kernel, by decide +kernel⟩, List.mem_of_getElem? (i := 854) (by decide +kernel), List.mem_of_getElem? (i := 1194) (by decide +kernel), List.mem_of_getElem? (i := 1195) (by decide +kernel)⟩
theorem lw_p67 : lw_okq (⟨"ClothMarketModel", "isShaded", "(II)Z"⟩, 44) := ⟨⟨by decide +kernel, by decide +kernel⟩, List.mem_of_getElem? (i := 854) (by decide +kernel), List.mem_of_getElem? (i := 1198) (by decide +kernel), List.mem_of_getElem? (i := 1199) (by decide +kernel)⟩
theorem lw_p68 : lw_okq (⟨"ClothMarketModel", "read", "([II)V"⟩, 44) := ⟨⟨by decide +kernel, by decide +kernel⟩, List.mem_of_getElem? (i := 854) (by decide +kernel), List.mem_of_getElem? (i := 1206) (by decide +kernel), List.mem_of_getElem? (i := 1207) (by decide +kernel)⟩
theorem lw_p69 : lw_okq (⟨"ClothMarketModel", "shadedBy", "(I)I"⟩, 44) := ⟨⟨by decide +kernel, by decide +kernel⟩, List.mem_of_getElem? (i := 854) (by decide +kernel), List.mem_of_getElem? (i := 1222) (by decide +kernel), List.mem_of_getElem? (i := 1223) (by decide +kernel)⟩
theorem lw_p70 : lw_okq (⟨"ClothMarketModel", "putAside", "()V"⟩, 44) := ⟨⟨by decide +kernel, by decide +kernel⟩, List.mem_of_getElem? (i := 854) (by decide +kernel), List.mem_of_getElem? (i := 1238) (by decide +kernel), List.mem_of_getElem? (i := 1239) (by decide +kernel)⟩
theorem lw_p71 : lw_okq (⟨"ClothMarketModel", "comeBack", "()V"⟩, 44) := ⟨⟨by decide +kernel, by decide +kernel⟩, List.mem_of_getElem? (i := 854) (by decide +kernel), List.mem_of_getElem? (i := 1242) (by decide +kernel), List.mem_of_getElem? (i := 1243) (by decide +kernel)⟩
theorem lw_p72 : lw_okq (⟨"ClothMarketModel", "lookAhead", "(I)V"⟩, 44) := ⟨⟨by decide +kernel, by decide +kernel⟩, List.mem_of_getElem? (i := 854) (by decide +kernel), List.mem_of_getElem? (i := 1250) (by decide +kernel), List.mem_of_getElem? (i := 1251) (by decide +kernel)⟩
theorem lw_p73 : lw_okq (⟨"ClothMarketModel", "setPast", "(I)V"⟩, 44) := ⟨⟨by decide +kernel, by decide +kernel⟩, List.mem_of_getElem? (i := 854) (by decide +kernel), List.mem_of_getElem? (i := 1258) (by decide +kernel), List.mem_of_getElem? (i := 1259) (by decide +kernel)⟩
theorem lw_p74 : lw_okq (⟨"ClothMarketModel", "isPast", "(I)Z"⟩, 44) := ⟨⟨by decide +kernel, by decide +kernel⟩, List.mem_of_getElem? (i := 854) (by decide +kernel), List.mem_of_getElem? (i := 1262) (by decide +kernel), List.mem_of_getElem? (i := 1263) (by decide +kernel)⟩
theorem lw_p75 : lw_okq (⟨"ClothMarketModel", "wanting", "()I"⟩, 44) := ⟨⟨by decide +kernel, by decide +kernel⟩, List.mem_of_getElem? (i := 854) (by decide +kernel), List.mem_of_getElem? (i := 1266) (by decide +kernel), List.mem_of_getElem? (i := 1267) (by decide +kernel)⟩
theorem lw_p76 : lw_okq (⟨"ClothMarketModel", "orderOn", "(II)V"⟩, 44) := ⟨⟨by decide +kernel, by decide +kernel⟩, List.mem_of_getElem? (i := 854) (by decide +kernel), List.mem_of_getElem? (i := 1282) (by decide +kernel), List.mem_of_getElem? (i := 1283) (by decide +kernel)⟩
theorem lw_p77 : lw_okq (⟨"ClothMarketModel", "holds", "(I)Z"⟩, 44) := ⟨⟨by decide +kernel, by decide +kernel⟩, List.mem_of_getElem? (i := 854) (by decide +kernel), List.mem_of_getElem? (i := 1298) (by decide +kernel), List.mem_of_getElem? (i := 1299) (by decide +kernel)⟩
theorem lw_p78 : lw_okq (⟨"ClothMarketModel", "askedTrack", "(III)I"⟩, 44) := ⟨⟨by decide +kernel, by decide +kernel⟩, List.mem_of_getElem? (i := 854) (by decide +kernel), List.mem_of_getElem? (i := 1310) (by decide +kernel), List.mem_of_getElem? (i := 1311) (by decide +kernel)⟩
theorem lw_p79 : lw_okq (⟨"ClothMarketModel", "setFits", "(III)V"⟩, 44) := ⟨⟨by decide +kernel, by decide +kernel⟩, List.mem_of_getElem? (i := 854) (by decide +kernel), List.mem_of_getElem? (i := 1314) (by decide +kernel), List.mem_of_getElem? (i := 1315) (by decide +kernel)⟩
def lw_privs_5 : List (MethodName × Nat) := [(⟨"ClothMarketModel", "stepPlain", "(II)V"⟩, 44), (⟨"ClothMarketModel", "sunNow", "()I"⟩, 44), (⟨"ClothMarketModel", "boughtAt", "(II)I"⟩, 44), (⟨"ClothMarketModel", "isShaded", "(II)Z"⟩, 44), (⟨"ClothMarketModel", "read", "([II)V"⟩, 44), (⟨"ClothMarketModel", "shadedBy", "(I)I"⟩, 44), (⟨"ClothMarketModel", "putAside", "()V"⟩, 44), (⟨"ClothMarketModel", "comeBack", "()V"⟩, 44), (⟨"ClothMarketModel", "lookAhead", "(I)V"⟩, 44), (⟨"ClothMarketModel", "setPast", "(I)V"⟩, 44), (⟨"ClothMarketModel", "isPast", "(I)Z"⟩, 44), (⟨"ClothMarketModel", "wanting", "()I"⟩, 44), (⟨"ClothMarketModel", "orderOn", "(II)V"⟩, 44), (⟨"ClothMarketModel", "holds", "(I)Z"⟩, 44), (⟨"ClothMarketModel", "askedTrack", "(III)I"⟩, 44), (⟨"ClothMarketModel", "setFits", "(III)V"⟩, 44)]
theorem lw_r5 : ∀ q ∈ lw_privs_5, lw_okq q := List.forall_mem_cons.mpr ⟨lw_p64, List.forall_mem_cons.mpr ⟨lw_p65, List.forall_mem_cons.mpr ⟨lw_p66, List.forall_mem_cons.mpr ⟨lw_p67, List.forall_mem_cons.mpr ⟨lw_p68, List.forall_mem_cons.mpr ⟨lw_p69, List.forall_mem_cons.mpr ⟨lw_p70, List.forall_mem_cons.mpr ⟨lw_p71, List.forall_mem_cons.mpr ⟨lw_p72, List.forall_mem_cons.mpr ⟨lw_p73, List.forall_mem_cons.mpr ⟨lw_p74, List.forall_mem_cons.mpr ⟨lw_p75, List.forall_mem_cons.mpr ⟨lw_p76, List.forall_mem_cons.mpr ⟨lw_p77, List.forall_mem_cons.mpr ⟨lw_p78, List.forall_mem_cons.mpr ⟨lw_p79, fun _ h => absurd h List.not_mem_nil⟩⟩⟩⟩⟩⟩⟩⟩⟩⟩⟩⟩⟩⟩⟩⟩
theorem lw_p80 : lw_okq (⟨"ClothMarketModel", "fitOn", "(IIIII)V"⟩, 44) := ⟨⟨by decide +kernel, by decide +kernel⟩, List.mem_of_getElem? (i := 854) (by decide +kernel), List.mem_of_getElem? (i := 1318) (by decide +kernel), List.mem_of_getElem? (i := 1319) (by decide +kernel)⟩
theorem lw_p81 : lw_okq (⟨"ClothMarketModel", "isTrack", "(II)Z"⟩, 44) := ⟨⟨by decide +kernel, by decide +kernel⟩, List.mem_of_getElem? (i := 854) (by decide +kernel), List.mem_of_getElem? (i := 1322) (by decide +kernel), List.mem_of_getElem? (i := 1323) (by decide +kernel)⟩
theorem lw_p82 : lw_okq (⟨"ClothMarketModel", "allPrices", "()I"⟩, 44) := ⟨⟨by decide +kernel, by decide +kernel⟩, List.mem_of_getElem? (i := 854) (by decide +kernel), List.mem_of_getElem? (i := 1346) (by decide +kernel), List.mem_of_getElem? (i := 1347) (by decide +kernel)⟩
theorem lw_p83 : lw_okq (⟨"ClothMarketModel", "allPaid", "()I"⟩, 44) := ⟨⟨by decide +kernel, by decide +kernel⟩, List.mem_of_getElem? (i := 854) (by decide +kernel), List.mem_of_getElem? (i := 1350) (by decide +kernel), List.mem_of_getElem? (i := 1351) (by decide +kernel)⟩
theorem lw_p84 : lw_okq (⟨"ClothMarketModel", "tells", "(I)I"⟩, 44) := ⟨⟨by decide +kernel, by decide +kernel⟩, List.mem_of_getElem? (i := 854) (by decide +kernel), List.mem_of_getElem? (i := 1365) (by decide +kernel), List.mem_of_getElem? (i := 1366) (by decide +kernel)⟩
theorem lw_p85 : lw_okq (⟨"ClothMarketModel", "mix", "(I)V"⟩, 44) := ⟨⟨by decide +kernel, by decide +kernel⟩, List.mem_of_getElem? (i := 854) (by decide +kernel), List.mem_of_getElem? (i := 1382) (by decide +kernel), List.mem_of_getElem? (i := 1383) (by decide +kernel)⟩
theorem lw_p86 : lw_okq (⟨"ClothMarketModel", "mixMarket", "()V"⟩, 44) := ⟨⟨by decide +kernel, by decide +kernel⟩, List.mem_of_getElem? (i := 854) (by decide +kernel), List.mem_of_getElem? (i := 1387) (by decide +kernel), List.mem_of_getElem? (i := 1388) (by decide +kernel)⟩
def lw_privs_6 : List (MethodName × Nat) := [(⟨"ClothMarketModel", "fitOn", "(IIIII)V"⟩, 44), (⟨"ClothMarketModel", "isTrack", "(II)Z"⟩, 44), (⟨"ClothMarketModel", "allPrices", "()I"⟩, 44), (⟨"ClothMarketModel", "allPaid", "()I"⟩, 44), (⟨"ClothMarketModel", "tells", "(I)I"⟩, 44), (⟨"ClothMarketModel", "mix", "(I)V"⟩, 44), (⟨"ClothMarketModel", "mixMarket", "()V"⟩, 44)]
theorem lw_r6 : ∀ q ∈ lw_privs_6, lw_okq q := List.forall_mem_cons.mpr ⟨lw_p80, List.forall_mem_cons.mpr ⟨lw_p81, List.forall_mem_cons.mpr ⟨lw_p82, List.forall_mem_cons.mpr ⟨lw_p83, List.forall_mem_cons.mpr ⟨lw_p84, List.forall_mem_cons.mpr ⟨lw_p85, List.forall_mem_cons.mpr ⟨lw_p86, fun _ h => absurd h List.not_mem_nil⟩⟩⟩⟩⟩⟩⟩
def lw_privs : List (MethodName × Nat) := lw_privs_1 ++ (lw_privs_2 ++ (lw_privs_3 ++ (lw_privs_4 ++ (lw_privs_5 ++ (lw_privs_6)))))
def lw_tbl : List Cond := k2_sels lw_privs ++ tables_1
theorem lw_privs_ok : ∀ q ∈ lw_privs, lw_okq q := by
  show ∀ q ∈ lw_privs_1 ++ (lw_privs_2 ++ (lw_privs_3 ++ (lw_privs_4 ++ (lw_privs_5 ++ (lw_privs_6))))), lw_okq q
  exact List.forall_mem_append.mpr ⟨lw_r1, List.forall_mem_append.mpr ⟨lw_r2, List.forall_mem_append.mpr ⟨lw_r3, List.forall_mem_append.mpr ⟨lw_r4, List.forall_mem_append.mpr ⟨lw_r5, lw_r6⟩⟩⟩⟩⟩
def RX0 : String := "ClothMarket$Forecast"
def TX0 : u_T := fun k => match k with
  | 0 => ("ClothMarket$Forecast", "trial", "LClothMarket$Market;", true)
  | 1 => ("ClothMarket$Forecast", "order", "[I", true)
  | 2 => ("ClothMarket$Forecast", "week", "[J", true)
  | _ => ("ClothMarket$Forecast", "besides", "I", false)
def tyX0 : Nat → FieldType := fun k => match k with
  | 0 => .object "ClothMarket$Market"
  | 1 => .array .int
  | 2 => .array .long
  | _ => .int
abbrev wsX00 : List Cond := u_ws RX0 TX0 4
theorem nmX0 : ∀ a, a < 4 → ∀ b, b < 4 → a ≠ b → (TX0 a).2.1 ≠ (TX0 b).2.1 := by decide +kernel
theorem tyX0_ok : ∀ k, k < 4 → parseFieldDescriptor (TX0 k).2.2.1 = some (tyX0 k) := by decide +kernel
abbrev cX0_init : ByteArray := prog_2_method_1_code
def yX0_init : MethodName := ⟨RX0, "<init>", "()V"⟩
abbrev cX0_pass : ByteArray := prog_2_method_2_code
def yX0_pass : MethodName := ⟨RX0, "pass", "(I)I"⟩
abbrev cX0_firstSaleTo : ByteArray := prog_2_method_3_code
def yX0_firstSaleTo : MethodName := ⟨RX0, "firstSaleTo", "(LClothMarket$Market;I)I"⟩
abbrev cX0_sales : ByteArray := prog_2_method_4_code
def yX0_sales : MethodName := ⟨RX0, "sales", "(LClothMarket$Market;I)I"⟩
abbrev cX0_salesInWinds : ByteArray := prog_2_method_5_code
def yX0_salesInWinds : MethodName := ⟨RX0, "salesInWinds", "(LClothMarket$Market;II)I"⟩
abbrev cX0_firstRest : ByteArray := prog_2_method_6_code
def yX0_firstRest : MethodName := ⟨RX0, "firstRest", "(LClothMarket$Market;)I"⟩
abbrev cX0_spotsAfter : ByteArray := prog_2_method_7_code
def yX0_spotsAfter : MethodName := ⟨RX0, "spotsAfter", "(LClothMarket$Market;ILClothMarket$Strip;)I"⟩
abbrev cX0_bestOrder : ByteArray := prog_2_method_8_code
def yX0_bestOrder : MethodName := ⟨RX0, "bestOrder", "(LClothMarket$Market;ILClothMarket$Strip;)I"⟩
abbrev cX0_shareWants : ByteArray := prog_2_method_9_code
def yX0_shareWants : MethodName := ⟨RX0, "shareWants", "(LClothMarket$Market;)V"⟩
abbrev cX0_layOrder : ByteArray := prog_2_method_10_code
def yX0_layOrder : MethodName := ⟨RX0, "layOrder", "(LClothMarket$Strip;)V"⟩
abbrev cX0_nextOrder : ByteArray := prog_2_method_11_code
def yX0_nextOrder : MethodName := ⟨RX0, "nextOrder", "(I)Z"⟩
abbrev cX0_swap : ByteArray := prog_2_method_12_code
def yX0_swap : MethodName := ⟨RX0, "swap", "(II)V"⟩
abbrev cX0_bestPlace : ByteArray := prog_2_method_13_code
def yX0_bestPlace : MethodName := ⟨RX0, "bestPlace", "(LClothMarket$Market;II)I"⟩
abbrev cX0_leastMissed : ByteArray := prog_2_method_14_code
def yX0_leastMissed : MethodName := ⟨RX0, "leastMissed", "(LClothMarket$Market;I)I"⟩
abbrev cX0_whoBought : ByteArray := prog_2_method_15_code
def yX0_whoBought : MethodName := ⟨RX0, "whoBought", "(LClothMarket$Market;)I"⟩
def RX1 : String := "ClothMarket$History"
def TX1 : u_T := fun k => match k with
  | 0 => ("ClothMarket$History", "saved", "[I", true)
  | _ => ("ClothMarket$History", "first", "I", false)
def tyX1 : Nat → FieldType := fun k => match k with
  | 0 => .array .int
  | _ => .int
abbrev wsX10 : List Cond := u_ws RX1 TX1 2
theorem nmX1 : ∀ a, a < 2 → ∀ b, b < 2 → a ≠ b → (TX1 a).2.1 ≠ (TX1 b).2.1 := by decide +kernel
theorem tyX1_ok : ∀ k, k < 2 → parseFieldDescriptor (TX1 k).2.2.1 = some (tyX1 k) := by decide +kernel
abbrev cX1_init : ByteArray := prog_3_method_1_code
def yX1_init : MethodName := ⟨RX1, "<init>", "()V"⟩
abbrev cX1_first : ByteArray := prog_3_method_2_code
def yX1_first : MethodName := ⟨RX1, "first", "()I"⟩
abbrev cX1_beginAt : ByteArray := prog_3_method_3_code
def yX1_beginAt : MethodName := ⟨RX1, "beginAt", "(I)V"⟩
abbrev cX1_save : ByteArray := prog_3_method_4_code
def yX1_save : MethodName := ⟨RX1, "save", "(LClothMarket$Market;)V"⟩
abbrev cX1_goBack : ByteArray := prog_3_method_5_code
def yX1_goBack : MethodName := ⟨RX1, "goBack", "(LClothMarket$Market;I)V"⟩
def RX2 : String := "ClothMarket$Market"
def TX2 : u_T := fun k => match k with
  | 0 => ("ClothMarket$Market", "reach", "I", false)
  | 1 => ("ClothMarket$Market", "minute", "I", false)
  | 2 => ("ClothMarket$Market", "stalls", "I", false)
  | 3 => ("ClothMarket$Market", "buyers", "I", false)
  | 4 => ("ClothMarket$Market", "stallSpot", "[I", true)
  | 5 => ("ClothMarket$Market", "stallGood", "[I", true)
  | 6 => ("ClothMarket$Market", "stallPrice", "[I", true)
  | 7 => ("ClothMarket$Market", "stallSold", "[I", true)
  | 8 => ("ClothMarket$Market", "kind", "[I", true)
  | 9 => ("ClothMarket$Market", "spot", "[I", true)
  | 10 => ("ClothMarket$Market", "want", "[I", true)
  | 11 => ("ClothMarket$Market", "paid", "[I", true)
  | 12 => ("ClothMarket$Market", "slack", "[I", true)
  | _ => ("ClothMarket$Market", "ways", "[I", true)
def tyX2 : Nat → FieldType := fun k => match k with
  | 0 => .int
  | 1 => .int
  | 2 => .int
  | 3 => .int
  | 4 => .array .int
  | 5 => .array .int
  | 6 => .array .int
  | 7 => .array .int
  | 8 => .array .int
  | 9 => .array .int
  | 10 => .array .int
  | 11 => .array .int
  | 12 => .array .int
  | _ => .array .int
abbrev wsX20 : List Cond := u_ws RX2 TX2 14
theorem nmX2 : ∀ a, a < 14 → ∀ b, b < 14 → a ≠ b → (TX2 a).2.1 ≠ (TX2 b).2.1 := by decide +kernel
theorem tyX2_ok : ∀ k, k < 14 → parseFieldDescriptor (TX2 k).2.2.1 = some (tyX2 k) := by decide +kernel
abbrev cX2_init : ByteArray := prog_4_method_1_code
def yX2_init : MethodName := ⟨RX2, "<init>", "()V"⟩
abbrev cX2_clear : ByteArray := prog_4_method_2_code
def yX2_clear : MethodName := ⟨RX2, "clear", "()V"⟩
abbrev cX2_addStall : ByteArray := prog_4_method_3_code
def yX2_addStall : MethodName := ⟨RX2, "addStall", "(III)V"⟩
abbrev cX2_canAddBuyer : ByteArray := prog_4_method_4_code
def yX2_canAddBuyer : MethodName := ⟨RX2, "canAddBuyer", "(II)Z"⟩
abbrev cX2_addBuyer : ByteArray := prog_4_method_5_code
def yX2_addBuyer : MethodName := ⟨RX2, "addBuyer", "(III)V"⟩
abbrev cX2_slackBehind : ByteArray := prog_4_method_6_code
def yX2_slackBehind : MethodName := ⟨RX2, "slackBehind", "(II)I"⟩
abbrev cX2_take : ByteArray := prog_4_method_7_code
def yX2_take : MethodName := ⟨RX2, "take", "(LClothMarket$Market;)V"⟩
abbrev cX2_takeWhatMoves : ByteArray := prog_4_method_8_code
def yX2_takeWhatMoves : MethodName := ⟨RX2, "takeWhatMoves", "(LClothMarket$Market;)V"⟩
abbrev cX2_findWays : ByteArray := prog_4_method_9_code
def yX2_findWays : MethodName := ⟨RX2, "findWays", "()V"⟩
abbrev cX2_wayToNearest : ByteArray := prog_4_method_10_code
def yX2_wayToNearest : MethodName := ⟨RX2, "wayToNearest", "(II)I"⟩
abbrev cX2_nearestStall : ByteArray := prog_4_method_11_code
def yX2_nearestStall : MethodName := ⟨RX2, "nearestStall", "(II)I"⟩
abbrev cX2_isNearer : ByteArray := prog_4_method_12_code
def yX2_isNearer : MethodName := ⟨RX2, "isNearer", "(III)Z"⟩
abbrev cX2_farToNearest : ByteArray := prog_4_method_13_code
def yX2_farToNearest : MethodName := ⟨RX2, "farToNearest", "(II)I"⟩
abbrev cX2_wayOf : ByteArray := prog_4_method_14_code
def yX2_wayOf : MethodName := ⟨RX2, "wayOf", "(I)I"⟩
abbrev cX2_isOfKind : ByteArray := prog_4_method_15_code
def yX2_isOfKind : MethodName := ⟨RX2, "isOfKind", "(II)Z"⟩
abbrev cX2_isRich : ByteArray := prog_4_method_16_code
def yX2_isRich : MethodName := ⟨RX2, "isRich", "(I)Z"⟩
abbrev cX2_passMinute : ByteArray := prog_4_method_17_code
def yX2_passMinute : MethodName := ⟨RX2, "passMinute", "(I)I"⟩
abbrev cX2_sun : ByteArray := prog_4_method_18_code
def yX2_sun : MethodName := ⟨RX2, "sun", "()I"⟩
abbrev cX2_holds : ByteArray := prog_4_method_19_code
def yX2_holds : MethodName := ⟨RX2, "holds", "(III)Z"⟩
abbrev cX2_walk : ByteArray := prog_4_method_20_code
def yX2_walk : MethodName := ⟨RX2, "walk", "(II)V"⟩
abbrev cX2_pull : ByteArray := prog_4_method_21_code
def yX2_pull : MethodName := ⟨RX2, "pull", "(II)V"⟩
abbrev cX2_canGo : ByteArray := prog_4_method_22_code
def yX2_canGo : MethodName := ⟨RX2, "canGo", "(III)Z"⟩
abbrev cX2_firstTaken : ByteArray := prog_4_method_23_code
def yX2_firstTaken : MethodName := ⟨RX2, "firstTaken", "(II)I"⟩
abbrev cX2_lastTaken : ByteArray := prog_4_method_24_code
def yX2_lastTaken : MethodName := ⟨RX2, "lastTaken", "(II)I"⟩
abbrev cX2_takenAlongRight : ByteArray := prog_4_method_25_code
def yX2_takenAlongRight : MethodName := ⟨RX2, "takenAlongRight", "(I)I"⟩
abbrev cX2_neighboursApart : ByteArray := prog_4_method_26_code
def yX2_neighboursApart : MethodName := ⟨RX2, "neighboursApart", "(I)I"⟩
abbrev cX2_stallsInReach : ByteArray := prog_4_method_27_code
def yX2_stallsInReach : MethodName := ⟨RX2, "stallsInReach", "(I)I"⟩
abbrev cX2_sell : ByteArray := prog_4_method_28_code
def yX2_sell : MethodName := ⟨RX2, "sell", "(I)I"⟩
abbrev cX2_stallHere : ByteArray := prog_4_method_29_code
def yX2_stallHere : MethodName := ⟨RX2, "stallHere", "(II)I"⟩
abbrev cX2_lastSpot : ByteArray := prog_4_method_30_code
def yX2_lastSpot : MethodName := ⟨RX2, "lastSpot", "()I"⟩
abbrev cX2_isShaded : ByteArray := prog_4_method_31_code
def yX2_isShaded : MethodName := ⟨RX2, "isShaded", "(II)Z"⟩
abbrev cX2_stallsShaded : ByteArray := prog_4_method_32_code
def yX2_stallsShaded : MethodName := ⟨RX2, "stallsShaded", "(I)I"⟩
abbrev cX2_shiftAll : ByteArray := prog_4_method_33_code
def yX2_shiftAll : MethodName := ⟨RX2, "shiftAll", "(I)Z"⟩
abbrev cX2_bestShift : ByteArray := prog_4_method_34_code
def yX2_bestShift : MethodName := ⟨RX2, "bestShift", "()I"⟩
abbrev cX2_fewestHolders : ByteArray := prog_4_method_35_code
def yX2_fewestHolders : MethodName := ⟨RX2, "fewestHolders", "()I"⟩
abbrev cX2_doHold : ByteArray := prog_4_method_36_code
def yX2_doHold : MethodName := ⟨RX2, "doHold", "(I)Z"⟩
abbrev cX2_howManyOfKind : ByteArray := prog_4_method_37_code
def yX2_howManyOfKind : MethodName := ⟨RX2, "howManyOfKind", "(I)I"⟩
abbrev cX2_howManyWant : ByteArray := prog_4_method_38_code
def yX2_howManyWant : MethodName := ⟨RX2, "howManyWant", "()I"⟩
abbrev cX2_paidByAll : ByteArray := prog_4_method_39_code
def yX2_paidByAll : MethodName := ⟨RX2, "paidByAll", "()I"⟩
abbrev cX2_pricesOfAll : ByteArray := prog_4_method_40_code
def yX2_pricesOfAll : MethodName := ⟨RX2, "pricesOfAll", "()I"⟩
abbrev cX2_factOfBuyer : ByteArray := prog_4_method_41_code
def yX2_factOfBuyer : MethodName := ⟨RX2, "factOfBuyer", "(II)I"⟩
abbrev cX2_factOfStall : ByteArray := prog_4_method_42_code
def yX2_factOfStall : MethodName := ⟨RX2, "factOfStall", "(II)I"⟩
abbrev cX2_spotsAndWants : ByteArray := prog_4_method_43_code
def yX2_spotsAndWants : MethodName := ⟨RX2, "spotsAndWants", "()J"⟩
abbrev cX2_digestOn : ByteArray := prog_4_method_44_code
def yX2_digestOn : MethodName := ⟨RX2, "digestOn", "(J)J"⟩
def RX3 : String := "ClothMarket$Reader"
def TX3 : u_T := fun k => match k with
  | 0 => ("ClothMarket$Reader", "into", "LClothMarket$Market;", true)
  | 1 => ("ClothMarket$Reader", "source", "LClothMarket$Strip;", false)
  | 2 => ("ClothMarket$Reader", "place", "I", false)
  | _ => ("ClothMarket$Reader", "wrong", "I", false)
def tyX3 : Nat → FieldType := fun k => match k with
  | 0 => .object "ClothMarket$Market"
  | 1 => .object "ClothMarket$Strip"
  | 2 => .int
  | _ => .int
abbrev wsX30 : List Cond := u_ws RX3 TX3 4
theorem nmX3 : ∀ a, a < 4 → ∀ b, b < 4 → a ≠ b → (TX3 a).2.1 ≠ (TX3 b).2.1 := by decide +kernel
theorem tyX3_ok : ∀ k, k < 4 → parseFieldDescriptor (TX3 k).2.2.1 = some (tyX3 k) := by decide +kernel
abbrev cX3_init : ByteArray := prog_5_method_1_code
def yX3_init : MethodName := ⟨RX3, "<init>", "()V"⟩
abbrev cX3_read : ByteArray := prog_5_method_2_code
def yX3_read : MethodName := ⟨RX3, "read", "(LClothMarket$Strip;)I"⟩
abbrev cX3_skipBlanks : ByteArray := prog_5_method_3_code
def yX3_skipBlanks : MethodName := ⟨RX3, "skipBlanks", "()V"⟩
abbrev cX3_take : ByteArray := prog_5_method_4_code
def yX3_take : MethodName := ⟨RX3, "take", "(II)I"⟩
abbrev cX3_readItem : ByteArray := prog_5_method_5_code
def yX3_readItem : MethodName := ⟨RX3, "readItem", "()V"⟩
abbrev cX3_kindOf : ByteArray := prog_5_method_6_code
def yX3_kindOf : MethodName := ⟨RX3, "kindOf", "(I)I"⟩
abbrev cX3_readStall : ByteArray := prog_5_method_7_code
def yX3_readStall : MethodName := ⟨RX3, "readStall", "()V"⟩
abbrev cX3_readBuyer : ByteArray := prog_5_method_8_code
def yX3_readBuyer : MethodName := ⟨RX3, "readBuyer", "(I)V"⟩
abbrev cX3_takeWant : ByteArray := prog_5_method_9_code
def yX3_takeWant : MethodName := ⟨RX3, "takeWant", "()I"⟩
def RX4 : String := "ClothMarket$Strip"
def TX4 : u_T := fun k => match k with
  | 0 => ("ClothMarket$Strip", "places", "[I", true)
  | _ => ("ClothMarket$Strip", "size", "I", false)
def tyX4 : Nat → FieldType := fun k => match k with
  | 0 => .array .int
  | _ => .int
abbrev wsX40 : List Cond := u_ws RX4 TX4 2
theorem nmX4 : ∀ a, a < 2 → ∀ b, b < 2 → a ≠ b → (TX4 a).2.1 ≠ (TX4 b).2.1 := by decide +kernel
theorem tyX4_ok : ∀ k, k < 2 → parseFieldDescriptor (TX4 k).2.2.1 = some (tyX4 k) := by decide +kernel
abbrev cX4_init : ByteArray := prog_6_method_1_code
def yX4_init : MethodName := ⟨RX4, "<init>", "(I)V"⟩
abbrev cX4_size : ByteArray := prog_6_method_2_code
def yX4_size : MethodName := ⟨RX4, "size", "()I"⟩
abbrev cX4_isThere : ByteArray := prog_6_method_3_code
def yX4_isThere : MethodName := ⟨RX4, "isThere", "()Z"⟩
abbrev cX4_has : ByteArray := prog_6_method_4_code
def yX4_has : MethodName := ⟨RX4, "has", "(I)Z"⟩
abbrev cX4_hasPart : ByteArray := prog_6_method_5_code
def yX4_hasPart : MethodName := ⟨RX4, "hasPart", "(II)Z"⟩
abbrev cX4_renew : ByteArray := prog_6_method_6_code
def yX4_renew : MethodName := ⟨RX4, "renew", "(II)V"⟩
abbrev cX4_remove : ByteArray := prog_6_method_7_code
def yX4_remove : MethodName := ⟨RX4, "remove", "()V"⟩
abbrev cX4_get : ByteArray := prog_6_method_8_code
def yX4_get : MethodName := ⟨RX4, "get", "(I)I"⟩
abbrev cX4_exchange : ByteArray := prog_6_method_9_code
def yX4_exchange : MethodName := ⟨RX4, "exchange", "(II)I"⟩
abbrev cX4_takePart : ByteArray := prog_6_method_10_code
def yX4_takePart : MethodName := ⟨RX4, "takePart", "(LClothMarket$Strip;III)V"⟩
abbrev cX4_sum : ByteArray := prog_6_method_11_code
def yX4_sum : MethodName := ⟨RX4, "sum", "()J"⟩
abbrev cX4_digestOn : ByteArray := prog_6_method_12_code
def yX4_digestOn : MethodName := ⟨RX4, "digestOn", "(J)J"⟩
def RX5 : String := "ClothMarket$Tracker"
def TX5 : u_T := fun k => match k with
  | 0 => ("ClothMarket$Tracker", "trial", "LClothMarket$Market;", true)
  | 1 => ("ClothMarket$Tracker", "goods", "[I", true)
  | 2 => ("ClothMarket$Tracker", "found", "I", false)
  | _ => ("ClothMarket$Tracker", "first", "I", false)
def tyX5 : Nat → FieldType := fun k => match k with
  | 0 => .object "ClothMarket$Market"
  | 1 => .array .int
  | 2 => .int
  | _ => .int
abbrev wsX50 : List Cond := u_ws RX5 TX5 4
theorem nmX5 : ∀ a, a < 4 → ∀ b, b < 4 → a ≠ b → (TX5 a).2.1 ≠ (TX5 b).2.1 := by decide +kernel
theorem tyX5_ok : ∀ k, k < 4 → parseFieldDescriptor (TX5 k).2.2.1 = some (tyX5 k) := by decide +kernel
abbrev cX5_init : ByteArray := prog_7_method_1_code
def yX5_init : MethodName := ⟨RX5, "<init>", "()V"⟩
abbrev cX5_seek : ByteArray := prog_7_method_2_code
def yX5_seek : MethodName := ⟨RX5, "seek", "(LClothMarket$Market;IILClothMarket$Strip;)V"⟩
abbrev cX5_howManyWays : ByteArray := prog_7_method_3_code
def yX5_howManyWays : MethodName := ⟨RX5, "howManyWays", "(I)I"⟩
abbrev cX5_giveWants : ByteArray := prog_7_method_4_code
def yX5_giveWants : MethodName := ⟨RX5, "giveWants", "(II)V"⟩
abbrev cX5_noteWants : ByteArray := prog_7_method_5_code
def yX5_noteWants : MethodName := ⟨RX5, "noteWants", "(II)V"⟩
abbrev cX5_isAsSeen : ByteArray := prog_7_method_6_code
def yX5_isAsSeen : MethodName := ⟨RX5, "isAsSeen", "(LClothMarket$Strip;)Z"⟩
def RX6 : String := "ClothMarket"
def TX6 : u_T := fun k => match k with
  | 0 => ("ClothMarket", "rows", "[LClothMarket$Strip;", true)
  | 1 => ("ClothMarket", "texts", "[LClothMarket$Strip;", true)
  | 2 => ("ClothMarket", "present", "LClothMarket$Market;", true)
  | 3 => ("ClothMarket", "kept", "[LClothMarket$Market;", true)
  | 4 => ("ClothMarket", "history", "LClothMarket$History;", true)
  | 5 => ("ClothMarket", "reader", "LClothMarket$Reader;", true)
  | 6 => ("ClothMarket", "forecast", "LClothMarket$Forecast;", true)
  | 7 => ("ClothMarket", "tracker", "LClothMarket$Tracker;", true)
  | 8 => ("ClothMarket", "findingCounts", "[I", true)
  | 9 => ("ClothMarket", "latestFinding", "I", false)
  | _ => ("ClothMarket", "told", "I", false)
def tyX6 : Nat → FieldType := fun k => match k with
  | 0 => .array (.object "ClothMarket$Strip")
  | 1 => .array (.object "ClothMarket$Strip")
  | 2 => .object "ClothMarket$Market"
  | 3 => .array (.object "ClothMarket$Market")
  | 4 => .object "ClothMarket$History"
  | 5 => .object "ClothMarket$Reader"
  | 6 => .object "ClothMarket$Forecast"
  | 7 => .object "ClothMarket$Tracker"
  | 8 => .array .int
  | 9 => .int
  | _ => .int
abbrev wsX60 : List Cond := u_ws RX6 TX6 11
theorem nmX6 : ∀ a, a < 11 → ∀ b, b < 11 → a ≠ b → (TX6 a).2.1 ≠ (TX6 b).2.1 := by decide +kernel
theorem tyX6_ok : ∀ k, k < 11 → parseFieldDescriptor (TX6 k).2.2.1 = some (tyX6 k) := by decide +kernel
abbrev cX6_init : ByteArray := prog_1_method_1_code
def yX6_init : MethodName := ⟨RX6, "<init>", "()V"⟩
abbrev cX6_row : ByteArray := prog_1_method_2_code
def yX6_row : MethodName := ⟨RX6, "row", "(II)I"⟩
abbrev cX6_lay : ByteArray := prog_1_method_3_code
def yX6_lay : MethodName := ⟨RX6, "lay", "(III)I"⟩
abbrev cX6_at : ByteArray := prog_1_method_4_code
def yX6_at : MethodName := ⟨RX6, "at", "(II)I"⟩
abbrev cX6_tear : ByteArray := prog_1_method_5_code
def yX6_tear : MethodName := ⟨RX6, "tear", "(I)I"⟩
abbrev cX6_copy : ByteArray := prog_1_method_6_code
def yX6_copy : MethodName := ⟨RX6, "copy", "(IIIII)I"⟩
abbrev cX6_mean : ByteArray := prog_1_method_7_code
def yX6_mean : MethodName := ⟨RX6, "mean", "(I)I"⟩
abbrev cX6_text : ByteArray := prog_1_method_8_code
def yX6_text : MethodName := ⟨RX6, "text", "(II)I"⟩
abbrev cX6_put : ByteArray := prog_1_method_9_code
def yX6_put : MethodName := ⟨RX6, "put", "(III)I"⟩
abbrev cX6_fault : ByteArray := prog_1_method_10_code
def yX6_fault : MethodName := ⟨RX6, "fault", "(I)I"⟩
abbrev cX6_market : ByteArray := prog_1_method_11_code
def yX6_market : MethodName := ⟨RX6, "market", "(I)I"⟩
abbrev cX6_buyer : ByteArray := prog_1_method_12_code
def yX6_buyer : MethodName := ⟨RX6, "buyer", "(II)I"⟩
abbrev cX6_stall : ByteArray := prog_1_method_13_code
def yX6_stall : MethodName := ⟨RX6, "stall", "(II)I"⟩
abbrev cX6_mark : ByteArray := prog_1_method_14_code
def yX6_mark : MethodName := ⟨RX6, "mark", "(II)I"⟩
abbrev cX6_want : ByteArray := prog_1_method_15_code
def yX6_want : MethodName := ⟨RX6, "want", "(II)I"⟩
abbrev cX6_price : ByteArray := prog_1_method_16_code
def yX6_price : MethodName := ⟨RX6, "price", "(II)I"⟩
abbrev cX6_wish : ByteArray := prog_1_method_17_code
def yX6_wish : MethodName := ⟨RX6, "wish", "(I)I"⟩
abbrev cX6_minutes : ByteArray := prog_1_method_18_code
def yX6_minutes : MethodName := ⟨RX6, "minutes", "(I)I"⟩
abbrev cX6_undo : ByteArray := prog_1_method_19_code
def yX6_undo : MethodName := ⟨RX6, "undo", "(I)I"⟩
abbrev cX6_turn : ByteArray := prog_1_method_20_code
def yX6_turn : MethodName := ⟨RX6, "turn", "(I)I"⟩
abbrev cX6_shade : ByteArray := prog_1_method_21_code
def yX6_shade : MethodName := ⟨RX6, "shade", "()I"⟩
abbrev cX6_shaded : ByteArray := prog_1_method_22_code
def yX6_shaded : MethodName := ⟨RX6, "shaded", "()I"⟩
abbrev cX6_keep : ByteArray := prog_1_method_23_code
def yX6_keep : MethodName := ⟨RX6, "keep", "(I)I"⟩
abbrev cX6_on : ByteArray := prog_1_method_24_code
def yX6_on : MethodName := ⟨RX6, "on", "(I)I"⟩
abbrev cX6_when : ByteArray := prog_1_method_25_code
def yX6_when : MethodName := ⟨RX6, "when", "(I)I"⟩
abbrev cX6_bought : ByteArray := prog_1_method_26_code
def yX6_bought : MethodName := ⟨RX6, "bought", "(I)I"⟩
abbrev cX6_rest : ByteArray := prog_1_method_27_code
def yX6_rest : MethodName := ⟨RX6, "rest", "()I"⟩
abbrev cX6_track : ByteArray := prog_1_method_28_code
def yX6_track : MethodName := ⟨RX6, "track", "(II)I"⟩
abbrev cX6_best : ByteArray := prog_1_method_29_code
def yX6_best : MethodName := ⟨RX6, "best", "(II)I"⟩
abbrev cX6_spot : ByteArray := prog_1_method_30_code
def yX6_spot : MethodName := ⟨RX6, "spot", "(II)I"⟩
abbrev cX6_missed : ByteArray := prog_1_method_31_code
def yX6_missed : MethodName := ⟨RX6, "missed", "(I)I"⟩
abbrev cX6_fewest : ByteArray := prog_1_method_32_code
def yX6_fewest : MethodName := ⟨RX6, "fewest", "()I"⟩
abbrev cX6_turns : ByteArray := prog_1_method_33_code
def yX6_turns : MethodName := ⟨RX6, "turns", "()I"⟩
abbrev cX6_fits : ByteArray := prog_1_method_34_code
def yX6_fits : MethodName := ⟨RX6, "fits", "(III)I"⟩
abbrev cX6_could : ByteArray := prog_1_method_35_code
def yX6_could : MethodName := ⟨RX6, "could", "(IIII)I"⟩
abbrev cX6_winds : ByteArray := prog_1_method_36_code
def yX6_winds : MethodName := ⟨RX6, "winds", "(II)I"⟩
abbrev cX6_asked : ByteArray := prog_1_method_37_code
def yX6_asked : MethodName := ⟨RX6, "asked", "()I"⟩
abbrev cX6_upper : ByteArray := prog_1_method_38_code
def yX6_upper : MethodName := ⟨RX6, "upper", "()J"⟩
abbrev cX6_lower : ByteArray := prog_1_method_39_code
def yX6_lower : MethodName := ⟨RX6, "lower", "()J"⟩
abbrev cX6_count : ByteArray := prog_1_method_40_code
def yX6_count : MethodName := ⟨RX6, "count", "(I)I"⟩
abbrev cX6_finding : ByteArray := prog_1_method_41_code
def yX6_finding : MethodName := ⟨RX6, "finding", "()I"⟩
abbrev cX6_findings : ByteArray := prog_1_method_42_code
def yX6_findings : MethodName := ⟨RX6, "findings", "(I)I"⟩
abbrev cX6_digest : ByteArray := prog_1_method_43_code
def yX6_digest : MethodName := ⟨RX6, "digest", "()J"⟩
abbrev cX6_refuse : ByteArray := prog_1_method_44_code
def yX6_refuse : MethodName := ⟨RX6, "refuse", "(I)I"⟩
abbrev cX6_tell : ByteArray := prog_1_method_45_code
def yX6_tell : MethodName := ⟨RX6, "tell", "(I)I"⟩
abbrev cX6_missingPlace : ByteArray := prog_1_method_46_code
def yX6_missingPlace : MethodName := ⟨RX6, "missingPlace", "(LClothMarket$Strip;I)I"⟩
abbrev cX6_refuseTrack : ByteArray := prog_1_method_47_code
def yX6_refuseTrack : MethodName := ⟨RX6, "refuseTrack", "(ILClothMarket$Strip;)I"⟩
abbrev cX6_isBuyer : ByteArray := prog_1_method_48_code
def yX6_isBuyer : MethodName := ⟨RX6, "isBuyer", "(I)Z"⟩
abbrev cX6_isStall : ByteArray := prog_1_method_49_code
def yX6_isStall : MethodName := ⟨RX6, "isStall", "(I)Z"⟩
abbrev cX6_isSetOfBuyers : ByteArray := prog_1_method_50_code
def yX6_isSetOfBuyers : MethodName := ⟨RX6, "isSetOfBuyers", "(I)Z"⟩
abbrev cX6_isKept : ByteArray := prog_1_method_51_code
def yX6_isKept : MethodName := ⟨RX6, "isKept", "(I)Z"⟩
abbrev cX6_numberOf : ByteArray := prog_1_method_52_code
def yX6_numberOf : MethodName := ⟨RX6, "numberOf", "(I)I"⟩
abbrev cX6_howManyKept : ByteArray := prog_1_method_53_code
def yX6_howManyKept : MethodName := ⟨RX6, "howManyKept", "()I"⟩
abbrev cX6_howManyThere : ByteArray := prog_1_method_54_code
def yX6_howManyThere : MethodName := ⟨RX6, "howManyThere", "([LClothMarket$Strip;)I"⟩
abbrev cX6_isWithin : ByteArray := prog_1_method_55_code
def yX6_isWithin : MethodName := ⟨RX6, "isWithin", "(II)Z"⟩
abbrev cX6_isUpTo : ByteArray := prog_1_method_56_code
def yX6_isUpTo : MethodName := ⟨RX6, "isUpTo", "(II)Z"⟩
abbrev cX6_isIn : ByteArray := prog_1_method_57_code
def yX6_isIn : MethodName := ⟨RX6, "isIn", "(II)Z"⟩
abbrev cX6_commonDivisor : ByteArray := prog_1_method_58_code
def yX6_commonDivisor : MethodName := ⟨RX6, "commonDivisor", "(JJ)J"⟩
def RX7 : String := "ClothMarketModel"
def TX7 : u_T := fun k => match k with
  | 0 => ("ClothMarketModel", "finding", "I", false)
  | 1 => ("ClothMarketModel", "findings", "[I", true)
  | 2 => ("ClothMarketModel", "asked", "I", false)
  | 3 => ("ClothMarketModel", "sizes", "[I", true)
  | 4 => ("ClothMarketModel", "rows", "[I", true)
  | 5 => ("ClothMarketModel", "moving", "[I", true)
  | 6 => ("ClothMarketModel", "lengths", "[I", true)
  | 7 => ("ClothMarketModel", "texts", "[I", true)
  | 8 => ("ClothMarketModel", "reach", "I", false)
  | 9 => ("ClothMarketModel", "many", "I", false)
  | 10 => ("ClothMarketModel", "stallMany", "I", false)
  | 11 => ("ClothMarketModel", "kinds", "[I", true)
  | 12 => ("ClothMarketModel", "spots", "[I", true)
  | 13 => ("ClothMarketModel", "wants", "[I", true)
  | 14 => ("ClothMarketModel", "paid", "[I", true)
  | 15 => ("ClothMarketModel", "stallSpots", "[I", true)
  | 16 => ("ClothMarketModel", "goods", "[I", true)
  | 17 => ("ClothMarketModel", "prices", "[I", true)
  | 18 => ("ClothMarketModel", "sold", "[I", true)
  | 19 => ("ClothMarketModel", "minute", "I", false)
  | 20 => ("ClothMarketModel", "base", "I", false)
  | 21 => ("ClothMarketModel", "readAt", "I", false)
  | 22 => ("ClothMarketModel", "readReach", "I", false)
  | 23 => ("ClothMarketModel", "readMany", "I", false)
  | 24 => ("ClothMarketModel", "readStalls", "I", false)
  | 25 => ("ClothMarketModel", "minuteSet", "I", false)
  | 26 => ("ClothMarketModel", "minutePaid", "I", false)
  | 27 => ("ClothMarketModel", "lastStall", "I", false)
  | 28 => ("ClothMarketModel", "notes", "[I", true)
  | 29 => ("ClothMarketModel", "kept", "[I", true)
  | 30 => ("ClothMarketModel", "aside", "[I", true)
  | 31 => ("ClothMarketModel", "asideMinute", "I", false)
  | 32 => ("ClothMarketModel", "aheadSet", "I", false)
  | 33 => ("ClothMarketModel", "aheadPaid", "I", false)
  | 34 => ("ClothMarketModel", "past", "[I", true)
  | 35 => ("ClothMarketModel", "orderSpan", "I", false)
  | 36 => ("ClothMarketModel", "orderMost", "I", false)
  | 37 => ("ClothMarketModel", "whose", "[I", true)
  | 38 => ("ClothMarketModel", "bestWhose", "[I", true)
  | 39 => ("ClothMarketModel", "wantsNow", "[I", true)
  | 40 => ("ClothMarketModel", "fitMany", "I", false)
  | 41 => ("ClothMarketModel", "fitFirst", "I", false)
  | 42 => ("ClothMarketModel", "fitGoods", "[I", true)
  | _ => ("ClothMarketModel", "h0", "J", false)
def tyX7 : Nat → FieldType := fun k => match k with
  | 0 => .int
  | 1 => .array .int
  | 2 => .int
  | 3 => .array .int
  | 4 => .array .int
  | 5 => .array .int
  | 6 => .array .int
  | 7 => .array .int
  | 8 => .int
  | 9 => .int
  | 10 => .int
  | 11 => .array .int
  | 12 => .array .int
  | 13 => .array .int
  | 14 => .array .int
  | 15 => .array .int
  | 16 => .array .int
  | 17 => .array .int
  | 18 => .array .int
  | 19 => .int
  | 20 => .int
  | 21 => .int
  | 22 => .int
  | 23 => .int
  | 24 => .int
  | 25 => .int
  | 26 => .int
  | 27 => .int
  | 28 => .array .int
  | 29 => .array .int
  | 30 => .array .int
  | 31 => .int
  | 32 => .int
  | 33 => .int
  | 34 => .array .int
  | 35 => .int
  | 36 => .int
  | 37 => .array .int
  | 38 => .array .int
  | 39 => .array .int
  | 40 => .int
  | 41 => .int
  | 42 => .array .int
  | _ => .long
abbrev wsX70 : List Cond := u_ws RX7 TX7 44
theorem nmX7 : ∀ a, a < 44 → ∀ b, b < 44 → a ≠ b → (TX7 a).2.1 ≠ (TX7 b).2.1 := by decide +kernel
theorem tyX7_ok : ∀ k, k < 44 → parseFieldDescriptor (TX7 k).2.2.1 = some (tyX7 k) := by decide +kernel
abbrev cX7_init : ByteArray := prog_9_method_1_code
def yX7_init : MethodName := ⟨RX7, "<init>", "()V"⟩
abbrev cX7_in : ByteArray := prog_9_method_3_code
def yX7_in : MethodName := ⟨RX7, "in", "(III)Z"⟩
abbrev cX7_meet : ByteArray := prog_9_method_4_code
def yX7_meet : MethodName := ⟨RX7, "meet", "(I)I"⟩
abbrev cX7_ask : ByteArray := prog_9_method_5_code
def yX7_ask : MethodName := ⟨RX7, "ask", "(II)I"⟩
abbrev cX7_has : ByteArray := prog_9_method_6_code
def yX7_has : MethodName := ⟨RX7, "has", "(II)Z"⟩
abbrev cX7_sizeOf : ByteArray := prog_9_method_7_code
def yX7_sizeOf : MethodName := ⟨RX7, "sizeOf", "(I)I"⟩
abbrev cX7_isRow : ByteArray := prog_9_method_8_code
def yX7_isRow : MethodName := ⟨RX7, "isRow", "(I)Z"⟩
abbrev cX7_isText : ByteArray := prog_9_method_9_code
def yX7_isText : MethodName := ⟨RX7, "isText", "(I)Z"⟩
abbrev cX7_askedRow : ByteArray := prog_9_method_10_code
def yX7_askedRow : MethodName := ⟨RX7, "askedRow", "(I)I"⟩
abbrev cX7_askedText : ByteArray := prog_9_method_11_code
def yX7_askedText : MethodName := ⟨RX7, "askedText", "(I)I"⟩
abbrev cX7_rowAt : ByteArray := prog_9_method_12_code
def yX7_rowAt : MethodName := ⟨RX7, "rowAt", "(II)I"⟩
abbrev cX7_setRow : ByteArray := prog_9_method_13_code
def yX7_setRow : MethodName := ⟨RX7, "setRow", "(III)V"⟩
abbrev cX7_row : ByteArray := prog_9_method_14_code
def yX7_row : MethodName := ⟨RX7, "row", "(II)I"⟩
abbrev cX7_at : ByteArray := prog_9_method_15_code
def yX7_at : MethodName := ⟨RX7, "at", "(II)I"⟩
abbrev cX7_lay : ByteArray := prog_9_method_16_code
def yX7_lay : MethodName := ⟨RX7, "lay", "(III)I"⟩
abbrev cX7_tear : ByteArray := prog_9_method_17_code
def yX7_tear : MethodName := ⟨RX7, "tear", "(I)I"⟩
abbrev cX7_copy : ByteArray := prog_9_method_18_code
def yX7_copy : MethodName := ⟨RX7, "copy", "(IIIII)I"⟩
abbrev cX7_mean : ByteArray := prog_9_method_19_code
def yX7_mean : MethodName := ⟨RX7, "mean", "(I)I"⟩
abbrev cX7_text : ByteArray := prog_9_method_20_code
def yX7_text : MethodName := ⟨RX7, "text", "(II)I"⟩
abbrev cX7_put : ByteArray := prog_9_method_21_code
def yX7_put : MethodName := ⟨RX7, "put", "(III)I"⟩
abbrev cX7_here : ByteArray := prog_9_method_22_code
def yX7_here : MethodName := ⟨RX7, "here", "(I)I"⟩
abbrev cX7_kindOf : ByteArray := prog_9_method_23_code
def yX7_kindOf : MethodName := ⟨RX7, "kindOf", "(I)I"⟩
abbrev cX7_isHere : ByteArray := prog_9_method_24_code
def yX7_isHere : MethodName := ⟨RX7, "isHere", "(III)Z"⟩
abbrev cX7_readsHead : ByteArray := prog_9_method_25_code
def yX7_readsHead : MethodName := ⟨RX7, "readsHead", "(I)Z"⟩
abbrev cX7_readsStall : ByteArray := prog_9_method_26_code
def yX7_readsStall : MethodName := ⟨RX7, "readsStall", "(I)Z"⟩
abbrev cX7_readsBuyer : ByteArray := prog_9_method_27_code
def yX7_readsBuyer : MethodName := ⟨RX7, "readsBuyer", "(I)Z"⟩
abbrev cX7_goesOn : ByteArray := prog_9_method_28_code
def yX7_goesOn : MethodName := ⟨RX7, "goesOn", "(I)I"⟩
abbrev cX7_fault : ByteArray := prog_9_method_29_code
def yX7_fault : MethodName := ⟨RX7, "fault", "(I)I"⟩
abbrev cX7_market : ByteArray := prog_9_method_30_code
def yX7_market : MethodName := ⟨RX7, "market", "(I)I"⟩
abbrev cX7_isBuyer : ByteArray := prog_9_method_31_code
def yX7_isBuyer : MethodName := ⟨RX7, "isBuyer", "(I)Z"⟩
abbrev cX7_isStall : ByteArray := prog_9_method_32_code
def yX7_isStall : MethodName := ⟨RX7, "isStall", "(I)Z"⟩
abbrev cX7_isA : ByteArray := prog_9_method_33_code
def yX7_isA : MethodName := ⟨RX7, "isA", "(II)Z"⟩
abbrev cX7_buyerOf : ByteArray := prog_9_method_34_code
def yX7_buyerOf : MethodName := ⟨RX7, "buyerOf", "(II)I"⟩
abbrev cX7_stallOf : ByteArray := prog_9_method_35_code
def yX7_stallOf : MethodName := ⟨RX7, "stallOf", "(II)I"⟩
abbrev cX7_buyer : ByteArray := prog_9_method_36_code
def yX7_buyer : MethodName := ⟨RX7, "buyer", "(II)I"⟩
abbrev cX7_stall : ByteArray := prog_9_method_37_code
def yX7_stall : MethodName := ⟨RX7, "stall", "(II)I"⟩
abbrev cX7_size : ByteArray := prog_9_method_38_code
def yX7_size : MethodName := ⟨RX7, "size", "(I)I"⟩
abbrev cX7_nearest : ByteArray := prog_9_method_39_code
def yX7_nearest : MethodName := ⟨RX7, "nearest", "(III)I"⟩
abbrev cX7_farTo : ByteArray := prog_9_method_40_code
def yX7_farTo : MethodName := ⟨RX7, "farTo", "(II)I"⟩
abbrev cX7_wishOf : ByteArray := prog_9_method_41_code
def yX7_wishOf : MethodName := ⟨RX7, "wishOf", "(I)I"⟩
abbrev cX7_mark : ByteArray := prog_9_method_42_code
def yX7_mark : MethodName := ⟨RX7, "mark", "(II)I"⟩
abbrev cX7_want : ByteArray := prog_9_method_43_code
def yX7_want : MethodName := ⟨RX7, "want", "(II)I"⟩
abbrev cX7_price : ByteArray := prog_9_method_44_code
def yX7_price : MethodName := ⟨RX7, "price", "(II)I"⟩
abbrev cX7_wish : ByteArray := prog_9_method_45_code
def yX7_wish : MethodName := ⟨RX7, "wish", "(I)I"⟩
abbrev cX7_isSpot : ByteArray := prog_9_method_46_code
def yX7_isSpot : MethodName := ⟨RX7, "isSpot", "(I)Z"⟩
abbrev cX7_isHeld : ByteArray := prog_9_method_47_code
def yX7_isHeld : MethodName := ⟨RX7, "isHeld", "(III)Z"⟩
abbrev cX7_stepPlain : ByteArray := prog_9_method_48_code
def yX7_stepPlain : MethodName := ⟨RX7, "stepPlain", "(II)V"⟩
abbrev cX7_goers : ByteArray := prog_9_method_49_code
def yX7_goers : MethodName := ⟨RX7, "goers", "(II)I"⟩
abbrev cX7_stepRich : ByteArray := prog_9_method_50_code
def yX7_stepRich : MethodName := ⟨RX7, "stepRich", "(I)V"⟩
abbrev cX7_sunNow : ByteArray := prog_9_method_51_code
def yX7_sunNow : MethodName := ⟨RX7, "sunNow", "()I"⟩
abbrev cX7_isShaded : ByteArray := prog_9_method_52_code
def yX7_isShaded : MethodName := ⟨RX7, "isShaded", "(II)Z"⟩
abbrev cX7_passMinute : ByteArray := prog_9_method_53_code
def yX7_passMinute : MethodName := ⟨RX7, "passMinute", "(II)V"⟩
abbrev cX7_boughtAt : ByteArray := prog_9_method_54_code
def yX7_boughtAt : MethodName := ⟨RX7, "boughtAt", "(II)I"⟩
abbrev cX7_write : ByteArray := prog_9_method_55_code
def yX7_write : MethodName := ⟨RX7, "write", "([II)V"⟩
abbrev cX7_read : ByteArray := prog_9_method_56_code
def yX7_read : MethodName := ⟨RX7, "read", "([II)V"⟩
abbrev cX7_minutes : ByteArray := prog_9_method_57_code
def yX7_minutes : MethodName := ⟨RX7, "minutes", "(I)I"⟩
abbrev cX7_undo : ByteArray := prog_9_method_58_code
def yX7_undo : MethodName := ⟨RX7, "undo", "(I)I"⟩
abbrev cX7_turn : ByteArray := prog_9_method_59_code
def yX7_turn : MethodName := ⟨RX7, "turn", "(I)I"⟩
abbrev cX7_shade : ByteArray := prog_9_method_60_code
def yX7_shade : MethodName := ⟨RX7, "shade", "()I"⟩
abbrev cX7_shadedBy : ByteArray := prog_9_method_61_code
def yX7_shadedBy : MethodName := ⟨RX7, "shadedBy", "(I)I"⟩
abbrev cX7_shaded : ByteArray := prog_9_method_62_code
def yX7_shaded : MethodName := ⟨RX7, "shaded", "()I"⟩
abbrev cX7_keep : ByteArray := prog_9_method_63_code
def yX7_keep : MethodName := ⟨RX7, "keep", "(I)I"⟩
abbrev cX7_on : ByteArray := prog_9_method_64_code
def yX7_on : MethodName := ⟨RX7, "on", "(I)I"⟩
abbrev cX7_putAside : ByteArray := prog_9_method_65_code
def yX7_putAside : MethodName := ⟨RX7, "putAside", "()V"⟩
abbrev cX7_comeBack : ByteArray := prog_9_method_66_code
def yX7_comeBack : MethodName := ⟨RX7, "comeBack", "()V"⟩
abbrev cX7_when : ByteArray := prog_9_method_67_code
def yX7_when : MethodName := ⟨RX7, "when", "(I)I"⟩
abbrev cX7_lookAhead : ByteArray := prog_9_method_68_code
def yX7_lookAhead : MethodName := ⟨RX7, "lookAhead", "(I)V"⟩
abbrev cX7_bought : ByteArray := prog_9_method_69_code
def yX7_bought : MethodName := ⟨RX7, "bought", "(I)I"⟩
abbrev cX7_isPast : ByteArray := prog_9_method_70_code
def yX7_isPast : MethodName := ⟨RX7, "isPast", "(I)Z"⟩
abbrev cX7_setPast : ByteArray := prog_9_method_71_code
def yX7_setPast : MethodName := ⟨RX7, "setPast", "(I)V"⟩
abbrev cX7_wanting : ByteArray := prog_9_method_72_code
def yX7_wanting : MethodName := ⟨RX7, "wanting", "()I"⟩
abbrev cX7_rest : ByteArray := prog_9_method_73_code
def yX7_rest : MethodName := ⟨RX7, "rest", "()I"⟩
abbrev cX7_track : ByteArray := prog_9_method_74_code
def yX7_track : MethodName := ⟨RX7, "track", "(II)I"⟩
abbrev cX7_isSpan : ByteArray := prog_9_method_75_code
def yX7_isSpan : MethodName := ⟨RX7, "isSpan", "(I)Z"⟩
abbrev cX7_orderOn : ByteArray := prog_9_method_76_code
def yX7_orderOn : MethodName := ⟨RX7, "orderOn", "(II)V"⟩
abbrev cX7_best : ByteArray := prog_9_method_77_code
def yX7_best : MethodName := ⟨RX7, "best", "(II)I"⟩
abbrev cX7_spot : ByteArray := prog_9_method_78_code
def yX7_spot : MethodName := ⟨RX7, "spot", "(II)I"⟩
abbrev cX7_missed : ByteArray := prog_9_method_79_code
def yX7_missed : MethodName := ⟨RX7, "missed", "(I)I"⟩
abbrev cX7_holds : ByteArray := prog_9_method_80_code
def yX7_holds : MethodName := ⟨RX7, "holds", "(I)Z"⟩
abbrev cX7_fewest : ByteArray := prog_9_method_81_code
def yX7_fewest : MethodName := ⟨RX7, "fewest", "()I"⟩
abbrev cX7_turns : ByteArray := prog_9_method_82_code
def yX7_turns : MethodName := ⟨RX7, "turns", "()I"⟩
abbrev cX7_askedTrack : ByteArray := prog_9_method_83_code
def yX7_askedTrack : MethodName := ⟨RX7, "askedTrack", "(III)I"⟩
abbrev cX7_setFits : ByteArray := prog_9_method_84_code
def yX7_setFits : MethodName := ⟨RX7, "setFits", "(III)V"⟩
abbrev cX7_fitOn : ByteArray := prog_9_method_85_code
def yX7_fitOn : MethodName := ⟨RX7, "fitOn", "(IIIII)V"⟩
abbrev cX7_isTrack : ByteArray := prog_9_method_86_code
def yX7_isTrack : MethodName := ⟨RX7, "isTrack", "(II)Z"⟩
abbrev cX7_fits : ByteArray := prog_9_method_87_code
def yX7_fits : MethodName := ⟨RX7, "fits", "(III)I"⟩
abbrev cX7_could : ByteArray := prog_9_method_88_code
def yX7_could : MethodName := ⟨RX7, "could", "(IIII)I"⟩
abbrev cX7_winds : ByteArray := prog_9_method_89_code
def yX7_winds : MethodName := ⟨RX7, "winds", "(II)I"⟩
abbrev cX7_asked : ByteArray := prog_9_method_90_code
def yX7_asked : MethodName := ⟨RX7, "asked", "()I"⟩
abbrev cX7_allPaid : ByteArray := prog_9_method_91_code
def yX7_allPaid : MethodName := ⟨RX7, "allPaid", "()I"⟩
abbrev cX7_allPrices : ByteArray := prog_9_method_92_code
def yX7_allPrices : MethodName := ⟨RX7, "allPrices", "()I"⟩
abbrev cX7_divisor : ByteArray := prog_9_method_93_code
def yX7_divisor : MethodName := ⟨RX7, "divisor", "(II)I"⟩
abbrev cX7_upper : ByteArray := prog_9_method_94_code
def yX7_upper : MethodName := ⟨RX7, "upper", "()J"⟩
abbrev cX7_lower : ByteArray := prog_9_method_95_code
def yX7_lower : MethodName := ⟨RX7, "lower", "()J"⟩
abbrev cX7_tells : ByteArray := prog_9_method_96_code
def yX7_tells : MethodName := ⟨RX7, "tells", "(I)I"⟩
abbrev cX7_count : ByteArray := prog_9_method_97_code
def yX7_count : MethodName := ⟨RX7, "count", "(I)I"⟩
abbrev cX7_finding : ByteArray := prog_9_method_98_code
def yX7_finding : MethodName := ⟨RX7, "finding", "()I"⟩
abbrev cX7_findings : ByteArray := prog_9_method_99_code
def yX7_findings : MethodName := ⟨RX7, "findings", "(I)I"⟩
abbrev cX7_mix : ByteArray := prog_9_method_100_code
def yX7_mix : MethodName := ⟨RX7, "mix", "(I)V"⟩
abbrev cX7_mixMarket : ByteArray := prog_9_method_101_code
def yX7_mixMarket : MethodName := ⟨RX7, "mixMarket", "()V"⟩
abbrev cX7_digest : ByteArray := prog_9_method_102_code
def yX7_digest : MethodName := ⟨RX7, "digest", "()J"⟩
def RJ6 : String := "java/lang/Integer"
abbrev cJ6_bitCount_0f7a4 : ByteArray := prog_10_method_49_code
def yJ6_bitCount_0f7a4 : MethodName := ⟨RJ6, "bitCount", "(I)I"⟩
def RJ9 : String := "java/lang/Math"
abbrev cJ9_abs_0f7a4 : ByteArray := prog_11_method_59_code
def yJ9_abs_0f7a4 : MethodName := ⟨RJ9, "abs", "(I)I"⟩
abbrev cJ9_max_f86c9 : ByteArray := prog_11_method_66_code
def yJ9_max_f86c9 : MethodName := ⟨RJ9, "max", "(JJ)J"⟩
def RJ10 : String := "java/lang/System"
def RL : String := "ClothMarketLaw"
abbrev cL_law : ByteArray := code
abbrev vwCl : List vw_C := [(RX0, TX0, 4), (RX1, TX1, 2), (RX2, TX2, 14), (RX3, TX3, 4), (RX4, TX4, 2), (RX5, TX5, 4), (RX6, TX6, 11), (RX7, TX7, 44)]
end
section
theorem dX0_init_0 : decode cX0_init 0 = .ok (.aload_n 0, 1) := by decide +kernel
theorem dX0_init_1 : decode cX0_init 1 = .ok (.invokespecial 3, 3) := by decide +kernel
theorem dX0_init_4 : decode cX0_init 4 = .ok (.aload_n 0, 1) := by decide +kernel
theorem dX0_init_5 : decode cX0_init 5 = .ok (.new 9, 3) := by decide +kernel
theorem dX0_init_8 : decode cX0_init 8 = .ok (.dup, 1) := by decide +kernel
theorem dX0_init_9 : decode cX0_init 9 = .ok (.invokespecial 11, 3) := by decide +kernel
theorem dX0_init_12 : decode cX0_init 12 = .ok (.putfield 12, 3) := by decide +kernel
theorem dX0_init_15 : decode cX0_init 15 = .ok (.aload_n 0, 1) := by decide +kernel
theorem dX0_init_16 : decode cX0_init 16 = .ok (.bipush 6, 2) := by decide +kernel
theorem dX0_init_18 : decode cX0_init 18 = .ok (.newarray .int, 2) := by decide +kernel
theorem dX0_init_20 : decode cX0_init 20 = .ok (.putfield 18, 3) := by decide +kernel
theorem dX0_init_23 : decode cX0_init 23 = .ok (.aload_n 0, 1) := by decide +kernel
theorem dX0_init_24 : decode cX0_init 24 = .ok (.bipush 7, 2) := by decide +kernel
theorem dX0_init_26 : decode cX0_init 26 = .ok (.newarray .long, 2) := by decide +kernel
theorem dX0_init_28 : decode cX0_init 28 = .ok (.putfield 22, 3) := by decide +kernel
theorem dX0_init_31 : decode cX0_init 31 = .ok (.return_, 1) := by decide +kernel
theorem dX0_pass_0 : decode cX0_pass 0 = .ok (.iconst 0, 1) := by decide +kernel
theorem dX0_pass_1 : decode cX0_pass 1 = .ok (.istore_n 2, 1) := by decide +kernel
theorem dX0_pass_2 : decode cX0_pass 2 = .ok (.iconst 0, 1) := by decide +kernel
theorem dX0_pass_3 : decode cX0_pass 3 = .ok (.istore_n 3, 1) := by decide +kernel
theorem dX0_pass_4 : decode cX0_pass 4 = .ok (.iload_n 3, 1) := by decide +kernel
theorem dX0_pass_5 : decode cX0_pass 5 = .ok (.iload_n 1, 1) := by decide +kernel
theorem dX0_pass_6 : decode cX0_pass 6 = .ok (.if_icmp .ge 20, 3) := by decide +kernel
theorem dX0_pass_9 : decode cX0_pass 9 = .ok (.iload_n 2, 1) := by decide +kernel
theorem dX0_pass_10 : decode cX0_pass 10 = .ok (.aload_n 0, 1) := by decide +kernel
theorem dX0_pass_11 : decode cX0_pass 11 = .ok (.getfield 12, 3) := by decide +kernel
theorem dX0_pass_14 : decode cX0_pass 14 = .ok (.iconst 0, 1) := by decide +kernel
theorem dX0_pass_15 : decode cX0_pass 15 = .ok (.invokevirtual 26, 3) := by decide +kernel
theorem dX0_pass_18 : decode cX0_pass 18 = .ok (.iadd, 1) := by decide +kernel
theorem dX0_pass_19 : decode cX0_pass 19 = .ok (.istore_n 2, 1) := by decide +kernel
theorem dX0_pass_20 : decode cX0_pass 20 = .ok (.iinc 3 1, 3) := by decide +kernel
theorem dX0_pass_23 : decode cX0_pass 23 = .ok (.goto (-19), 3) := by decide +kernel
theorem dX0_pass_26 : decode cX0_pass 26 = .ok (.iload_n 2, 1) := by decide +kernel
theorem dX0_pass_27 : decode cX0_pass 27 = .ok (.ireturn, 1) := by decide +kernel
theorem dX0_firstSaleTo_0 : decode cX0_firstSaleTo 0 = .ok (.aload_n 1, 1) := by decide +kernel
theorem dX0_firstSaleTo_1 : decode cX0_firstSaleTo 1 = .ok (.getfield 30, 3) := by decide +kernel
theorem dX0_firstSaleTo_4 : decode cX0_firstSaleTo 4 = .ok (.iload_n 2, 1) := by decide +kernel
theorem dX0_firstSaleTo_5 : decode cX0_firstSaleTo 5 = .ok (.iaload, 1) := by decide +kernel
theorem dX0_firstSaleTo_6 : decode cX0_firstSaleTo 6 = .ok (.istore_n 3, 1) := by decide +kernel
theorem dX0_firstSaleTo_7 : decode cX0_firstSaleTo 7 = .ok (.aload_n 0, 1) := by decide +kernel
theorem dX0_firstSaleTo_8 : decode cX0_firstSaleTo 8 = .ok (.getfield 12, 3) := by decide +kernel
theorem dX0_firstSaleTo_11 : decode cX0_firstSaleTo 11 = .ok (.aload_n 1, 1) := by decide +kernel
theorem dX0_firstSaleTo_12 : decode cX0_firstSaleTo 12 = .ok (.invokevirtual 33, 3) := by decide +kernel
theorem dX0_firstSaleTo_15 : decode cX0_firstSaleTo 15 = .ok (.iconst 1, 1) := by decide +kernel
theorem dX0_firstSaleTo_16 : decode cX0_firstSaleTo 16 = .ok (.istore 4, 2) := by decide +kernel
theorem dX0_firstSaleTo_18 : decode cX0_firstSaleTo 18 = .ok (.iload 4, 2) := by decide +kernel
theorem dX0_firstSaleTo_20 : decode cX0_firstSaleTo 20 = .ok (.bipush 60, 2) := by decide +kernel
theorem dX0_firstSaleTo_22 : decode cX0_firstSaleTo 22 = .ok (.if_icmp .gt 60, 3) := by decide +kernel
theorem dX0_firstSaleTo_25 : decode cX0_firstSaleTo 25 = .ok (.iload_n 3, 1) := by decide +kernel
theorem dX0_firstSaleTo_26 : decode cX0_firstSaleTo 26 = .ok (.iconst 4, 1) := by decide +kernel
theorem dX0_firstSaleTo_27 : decode cX0_firstSaleTo 27 = .ok (.if_icmp .eq 55, 3) := by decide +kernel
theorem dX0_firstSaleTo_30 : decode cX0_firstSaleTo 30 = .ok (.aload_n 0, 1) := by decide +kernel
theorem dX0_firstSaleTo_31 : decode cX0_firstSaleTo 31 = .ok (.getfield 12, 3) := by decide +kernel
theorem dX0_firstSaleTo_34 : decode cX0_firstSaleTo 34 = .ok (.iconst 0, 1) := by decide +kernel
theorem dX0_firstSaleTo_35 : decode cX0_firstSaleTo 35 = .ok (.invokevirtual 26, 3) := by decide +kernel
theorem dX0_firstSaleTo_38 : decode cX0_firstSaleTo 38 = .ok (.pop, 1) := by decide +kernel
theorem dX0_firstSaleTo_39 : decode cX0_firstSaleTo 39 = .ok (.aload_n 0, 1) := by decide +kernel
theorem dX0_firstSaleTo_40 : decode cX0_firstSaleTo 40 = .ok (.getfield 12, 3) := by decide +kernel
theorem dX0_firstSaleTo_43 : decode cX0_firstSaleTo 43 = .ok (.getfield 30, 3) := by decide +kernel
theorem dX0_firstSaleTo_46 : decode cX0_firstSaleTo 46 = .ok (.iload_n 2, 1) := by decide +kernel
theorem dX0_firstSaleTo_47 : decode cX0_firstSaleTo 47 = .ok (.iaload, 1) := by decide +kernel
theorem dX0_firstSaleTo_48 : decode cX0_firstSaleTo 48 = .ok (.iconst 4, 1) := by decide +kernel
theorem dX0_firstSaleTo_49 : decode cX0_firstSaleTo 49 = .ok (.if_icmp .ne 27, 3) := by decide +kernel
theorem dX0_firstSaleTo_52 : decode cX0_firstSaleTo 52 = .ok (.aload_n 0, 1) := by decide +kernel
theorem dX0_firstSaleTo_53 : decode cX0_firstSaleTo 53 = .ok (.aload_n 0, 1) := by decide +kernel
theorem dX0_firstSaleTo_54 : decode cX0_firstSaleTo 54 = .ok (.getfield 12, 3) := by decide +kernel
theorem dX0_firstSaleTo_57 : decode cX0_firstSaleTo 57 = .ok (.aload_n 0, 1) := by decide +kernel
theorem dX0_firstSaleTo_58 : decode cX0_firstSaleTo 58 = .ok (.getfield 12, 3) := by decide +kernel
theorem dX0_firstSaleTo_61 : decode cX0_firstSaleTo 61 = .ok (.getfield 37, 3) := by decide +kernel
theorem dX0_firstSaleTo_64 : decode cX0_firstSaleTo 64 = .ok (.iload_n 2, 1) := by decide +kernel
theorem dX0_firstSaleTo_65 : decode cX0_firstSaleTo 65 = .ok (.iaload, 1) := by decide +kernel
theorem dX0_firstSaleTo_66 : decode cX0_firstSaleTo 66 = .ok (.iload_n 3, 1) := by decide +kernel
theorem dX0_firstSaleTo_67 : decode cX0_firstSaleTo 67 = .ok (.invokevirtual 40, 3) := by decide +kernel
theorem dX0_firstSaleTo_70 : decode cX0_firstSaleTo 70 = .ok (.putfield 44, 3) := by decide +kernel
theorem dX0_firstSaleTo_73 : decode cX0_firstSaleTo 73 = .ok (.iload 4, 2) := by decide +kernel
theorem dX0_firstSaleTo_75 : decode cX0_firstSaleTo 75 = .ok (.ireturn, 1) := by decide +kernel
theorem dX0_firstSaleTo_76 : decode cX0_firstSaleTo 76 = .ok (.iinc 4 1, 3) := by decide +kernel
theorem dX0_firstSaleTo_79 : decode cX0_firstSaleTo 79 = .ok (.goto (-61), 3) := by decide +kernel
theorem dX0_firstSaleTo_82 : decode cX0_firstSaleTo 82 = .ok (.bipush (-9), 2) := by decide +kernel
theorem dX0_firstSaleTo_84 : decode cX0_firstSaleTo 84 = .ok (.ireturn, 1) := by decide +kernel
theorem dX0_sales_0 : decode cX0_sales 0 = .ok (.aload_n 0, 1) := by decide +kernel
theorem dX0_sales_1 : decode cX0_sales 1 = .ok (.getfield 12, 3) := by decide +kernel
theorem dX0_sales_4 : decode cX0_sales 4 = .ok (.aload_n 1, 1) := by decide +kernel
theorem dX0_sales_5 : decode cX0_sales 5 = .ok (.invokevirtual 33, 3) := by decide +kernel
theorem dX0_sales_8 : decode cX0_sales 8 = .ok (.aload_n 0, 1) := by decide +kernel
theorem dX0_sales_9 : decode cX0_sales 9 = .ok (.iload_n 2, 1) := by decide +kernel
theorem dX0_sales_10 : decode cX0_sales 10 = .ok (.invokevirtual 48, 3) := by decide +kernel
theorem dX0_sales_13 : decode cX0_sales 13 = .ok (.istore_n 3, 1) := by decide +kernel
theorem dX0_sales_14 : decode cX0_sales 14 = .ok (.aload_n 0, 1) := by decide +kernel
theorem dX0_sales_15 : decode cX0_sales 15 = .ok (.aload_n 0, 1) := by decide +kernel
theorem dX0_sales_16 : decode cX0_sales 16 = .ok (.getfield 12, 3) := by decide +kernel
theorem dX0_sales_19 : decode cX0_sales 19 = .ok (.invokevirtual 51, 3) := by decide +kernel
theorem dX0_sales_22 : decode cX0_sales 22 = .ok (.aload_n 1, 1) := by decide +kernel
theorem dX0_sales_23 : decode cX0_sales 23 = .ok (.invokevirtual 51, 3) := by decide +kernel
theorem dX0_sales_26 : decode cX0_sales 26 = .ok (.isub, 1) := by decide +kernel
theorem dX0_sales_27 : decode cX0_sales 27 = .ok (.putfield 44, 3) := by decide +kernel
theorem dX0_sales_30 : decode cX0_sales 30 = .ok (.iload_n 3, 1) := by decide +kernel
theorem dX0_sales_31 : decode cX0_sales 31 = .ok (.ireturn, 1) := by decide +kernel
theorem dX0_salesInWinds_0 : decode cX0_salesInWinds 0 = .ok (.aload_n 0, 1) := by decide +kernel
theorem dX0_salesInWinds_1 : decode cX0_salesInWinds 1 = .ok (.getfield 12, 3) := by decide +kernel
theorem dX0_salesInWinds_4 : decode cX0_salesInWinds 4 = .ok (.aload_n 1, 1) := by decide +kernel
theorem dX0_salesInWinds_5 : decode cX0_salesInWinds 5 = .ok (.invokevirtual 33, 3) := by decide +kernel
theorem dX0_salesInWinds_8 : decode cX0_salesInWinds 8 = .ok (.iload_n 3, 1) := by decide +kernel
theorem dX0_salesInWinds_9 : decode cX0_salesInWinds 9 = .ok (.i2l, 1) := by decide +kernel
theorem dX0_salesInWinds_10 : decode cX0_salesInWinds 10 = .ok (.lstore 4, 2) := by decide +kernel
theorem dX0_salesInWinds_12 : decode cX0_salesInWinds 12 = .ok (.iconst 0, 1) := by decide +kernel
theorem dX0_salesInWinds_13 : decode cX0_salesInWinds 13 = .ok (.istore 6, 2) := by decide +kernel
theorem dX0_salesInWinds_15 : decode cX0_salesInWinds 15 = .ok (.iconst 0, 1) := by decide +kernel
theorem dX0_salesInWinds_16 : decode cX0_salesInWinds 16 = .ok (.istore 7, 2) := by decide +kernel
theorem dX0_salesInWinds_18 : decode cX0_salesInWinds 18 = .ok (.iload 7, 2) := by decide +kernel
theorem dX0_salesInWinds_20 : decode cX0_salesInWinds 20 = .ok (.iload_n 2, 1) := by decide +kernel
theorem dX0_salesInWinds_21 : decode cX0_salesInWinds 21 = .ok (.if_icmp .ge 42, 3) := by decide +kernel
theorem dX0_salesInWinds_24 : decode cX0_salesInWinds 24 = .ok (.lload 4, 2) := by decide +kernel
theorem dX0_salesInWinds_26 : decode cX0_salesInWinds 26 = .ok (.ldc2_w 55, 3) := by decide +kernel
theorem dX0_salesInWinds_29 : decode cX0_salesInWinds 29 = .ok (.lmul, 1) := by decide +kernel
theorem dX0_salesInWinds_30 : decode cX0_salesInWinds 30 = .ok (.ldc2_w 57, 3) := by decide +kernel
theorem dX0_salesInWinds_33 : decode cX0_salesInWinds 33 = .ok (.lrem, 1) := by decide +kernel
theorem dX0_salesInWinds_34 : decode cX0_salesInWinds 34 = .ok (.lstore 4, 2) := by decide +kernel
theorem dX0_salesInWinds_36 : decode cX0_salesInWinds 36 = .ok (.iload 6, 2) := by decide +kernel
theorem dX0_salesInWinds_38 : decode cX0_salesInWinds 38 = .ok (.aload_n 0, 1) := by decide +kernel
theorem dX0_salesInWinds_39 : decode cX0_salesInWinds 39 = .ok (.getfield 12, 3) := by decide +kernel
theorem dX0_salesInWinds_42 : decode cX0_salesInWinds 42 = .ok (.lload 4, 2) := by decide +kernel
theorem dX0_salesInWinds_44 : decode cX0_salesInWinds 44 = .ok (.ldc2_w 59, 3) := by decide +kernel
theorem dX0_salesInWinds_47 : decode cX0_salesInWinds 47 = .ok (.lrem, 1) := by decide +kernel
theorem dX0_salesInWinds_48 : decode cX0_salesInWinds 48 = .ok (.l2i, 1) := by decide +kernel
theorem dX0_salesInWinds_49 : decode cX0_salesInWinds 49 = .ok (.iconst 1, 1) := by decide +kernel
theorem dX0_salesInWinds_50 : decode cX0_salesInWinds 50 = .ok (.isub, 1) := by decide +kernel
theorem dX0_salesInWinds_51 : decode cX0_salesInWinds 51 = .ok (.invokevirtual 26, 3) := by decide +kernel
theorem dX0_salesInWinds_54 : decode cX0_salesInWinds 54 = .ok (.iadd, 1) := by decide +kernel
theorem dX0_salesInWinds_55 : decode cX0_salesInWinds 55 = .ok (.istore 6, 2) := by decide +kernel
theorem dX0_salesInWinds_57 : decode cX0_salesInWinds 57 = .ok (.iinc 7 1, 3) := by decide +kernel
theorem dX0_salesInWinds_60 : decode cX0_salesInWinds 60 = .ok (.goto (-42), 3) := by decide +kernel
theorem dX0_salesInWinds_63 : decode cX0_salesInWinds 63 = .ok (.aload_n 0, 1) := by decide +kernel
theorem dX0_salesInWinds_64 : decode cX0_salesInWinds 64 = .ok (.aload_n 0, 1) := by decide +kernel
theorem dX0_salesInWinds_65 : decode cX0_salesInWinds 65 = .ok (.getfield 12, 3) := by decide +kernel
theorem dX0_salesInWinds_68 : decode cX0_salesInWinds 68 = .ok (.invokevirtual 51, 3) := by decide +kernel
theorem dX0_salesInWinds_71 : decode cX0_salesInWinds 71 = .ok (.aload_n 1, 1) := by decide +kernel
theorem dX0_salesInWinds_72 : decode cX0_salesInWinds 72 = .ok (.invokevirtual 51, 3) := by decide +kernel
theorem dX0_salesInWinds_75 : decode cX0_salesInWinds 75 = .ok (.isub, 1) := by decide +kernel
theorem dX0_salesInWinds_76 : decode cX0_salesInWinds 76 = .ok (.putfield 44, 3) := by decide +kernel
theorem dX0_salesInWinds_79 : decode cX0_salesInWinds 79 = .ok (.iload 6, 2) := by decide +kernel
theorem dX0_salesInWinds_81 : decode cX0_salesInWinds 81 = .ok (.ireturn, 1) := by decide +kernel
theorem dX0_firstRest_0 : decode cX0_firstRest 0 = .ok (.aload_n 0, 1) := by decide +kernel
theorem dX0_firstRest_1 : decode cX0_firstRest 1 = .ok (.getfield 12, 3) := by decide +kernel
theorem dX0_firstRest_4 : decode cX0_firstRest 4 = .ok (.aload_n 1, 1) := by decide +kernel
theorem dX0_firstRest_5 : decode cX0_firstRest 5 = .ok (.invokevirtual 33, 3) := by decide +kernel
theorem dX0_firstRest_8 : decode cX0_firstRest 8 = .ok (.aload_n 0, 1) := by decide +kernel
theorem dX0_firstRest_9 : decode cX0_firstRest 9 = .ok (.getfield 22, 3) := by decide +kernel
theorem dX0_firstRest_12 : decode cX0_firstRest 12 = .ok (.iconst 0, 1) := by decide +kernel
theorem dX0_firstRest_13 : decode cX0_firstRest 13 = .ok (.aload_n 0, 1) := by decide +kernel
theorem dX0_firstRest_14 : decode cX0_firstRest 14 = .ok (.getfield 12, 3) := by decide +kernel
theorem dX0_firstRest_17 : decode cX0_firstRest 17 = .ok (.invokevirtual 61, 3) := by decide +kernel
theorem dX0_firstRest_20 : decode cX0_firstRest 20 = .ok (.lastore, 1) := by decide +kernel
theorem dX0_firstRest_21 : decode cX0_firstRest 21 = .ok (.iconst 1, 1) := by decide +kernel
theorem dX0_firstRest_22 : decode cX0_firstRest 22 = .ok (.istore_n 2, 1) := by decide +kernel
theorem dX0_firstRest_23 : decode cX0_firstRest 23 = .ok (.iload_n 2, 1) := by decide +kernel
theorem dX0_firstRest_24 : decode cX0_firstRest 24 = .ok (.sipush 200, 3) := by decide +kernel
theorem dX0_firstRest_27 : decode cX0_firstRest 27 = .ok (.if_icmp .gt 69, 3) := by decide +kernel
theorem dX0_firstRest_30 : decode cX0_firstRest 30 = .ok (.aload_n 0, 1) := by decide +kernel
theorem dX0_firstRest_31 : decode cX0_firstRest 31 = .ok (.getfield 12, 3) := by decide +kernel
theorem dX0_firstRest_34 : decode cX0_firstRest 34 = .ok (.iconst 0, 1) := by decide +kernel
theorem dX0_firstRest_35 : decode cX0_firstRest 35 = .ok (.invokevirtual 26, 3) := by decide +kernel
theorem dX0_firstRest_38 : decode cX0_firstRest 38 = .ok (.pop, 1) := by decide +kernel
theorem dX0_firstRest_39 : decode cX0_firstRest 39 = .ok (.aload_n 0, 1) := by decide +kernel
theorem dX0_firstRest_40 : decode cX0_firstRest 40 = .ok (.getfield 12, 3) := by decide +kernel
theorem dX0_firstRest_43 : decode cX0_firstRest 43 = .ok (.invokevirtual 61, 3) := by decide +kernel
theorem dX0_firstRest_46 : decode cX0_firstRest 46 = .ok (.lstore_n 3, 1) := by decide +kernel
theorem dX0_firstRest_47 : decode cX0_firstRest 47 = .ok (.iload_n 2, 1) := by decide +kernel
theorem dX0_firstRest_48 : decode cX0_firstRest 48 = .ok (.bipush 7, 2) := by decide +kernel
theorem dX0_firstRest_50 : decode cX0_firstRest 50 = .ok (.if_icmp .lt 30, 3) := by decide +kernel
theorem dX0_firstRest_53 : decode cX0_firstRest 53 = .ok (.aload_n 0, 1) := by decide +kernel
theorem dX0_firstRest_54 : decode cX0_firstRest 54 = .ok (.getfield 22, 3) := by decide +kernel
theorem dX0_firstRest_57 : decode cX0_firstRest 57 = .ok (.iload_n 2, 1) := by decide +kernel
theorem dX0_firstRest_58 : decode cX0_firstRest 58 = .ok (.bipush 7, 2) := by decide +kernel
theorem dX0_firstRest_60 : decode cX0_firstRest 60 = .ok (.irem, 1) := by decide +kernel
theorem dX0_firstRest_61 : decode cX0_firstRest 61 = .ok (.laload, 1) := by decide +kernel
theorem dX0_firstRest_62 : decode cX0_firstRest 62 = .ok (.lload_n 3, 1) := by decide +kernel
theorem dX0_firstRest_63 : decode cX0_firstRest 63 = .ok (.lcmp, 1) := by decide +kernel
theorem dX0_firstRest_64 : decode cX0_firstRest 64 = .ok (.ifCond .ne 16, 3) := by decide +kernel
theorem dX0_firstRest_67 : decode cX0_firstRest 67 = .ok (.aload_n 0, 1) := by decide +kernel
theorem dX0_firstRest_68 : decode cX0_firstRest 68 = .ok (.aload_n 0, 1) := by decide +kernel
theorem dX0_firstRest_69 : decode cX0_firstRest 69 = .ok (.getfield 12, 3) := by decide +kernel
theorem dX0_firstRest_72 : decode cX0_firstRest 72 = .ok (.invokevirtual 65, 3) := by decide +kernel
theorem dX0_firstRest_75 : decode cX0_firstRest 75 = .ok (.putfield 44, 3) := by decide +kernel
theorem dX0_firstRest_78 : decode cX0_firstRest 78 = .ok (.iload_n 2, 1) := by decide +kernel
theorem dX0_firstRest_79 : decode cX0_firstRest 79 = .ok (.ireturn, 1) := by decide +kernel
theorem dX0_firstRest_80 : decode cX0_firstRest 80 = .ok (.aload_n 0, 1) := by decide +kernel
theorem dX0_firstRest_81 : decode cX0_firstRest 81 = .ok (.getfield 22, 3) := by decide +kernel
theorem dX0_firstRest_84 : decode cX0_firstRest 84 = .ok (.iload_n 2, 1) := by decide +kernel
theorem dX0_firstRest_85 : decode cX0_firstRest 85 = .ok (.bipush 7, 2) := by decide +kernel
theorem dX0_firstRest_87 : decode cX0_firstRest 87 = .ok (.irem, 1) := by decide +kernel
theorem dX0_firstRest_88 : decode cX0_firstRest 88 = .ok (.lload_n 3, 1) := by decide +kernel
theorem dX0_firstRest_89 : decode cX0_firstRest 89 = .ok (.lastore, 1) := by decide +kernel
theorem dX0_firstRest_90 : decode cX0_firstRest 90 = .ok (.iinc 2 1, 3) := by decide +kernel
theorem dX0_firstRest_93 : decode cX0_firstRest 93 = .ok (.goto (-70), 3) := by decide +kernel
theorem dX0_firstRest_96 : decode cX0_firstRest 96 = .ok (.bipush (-9), 2) := by decide +kernel
theorem dX0_firstRest_98 : decode cX0_firstRest 98 = .ok (.ireturn, 1) := by decide +kernel
theorem dX0_spotsAfter_0 : decode cX0_spotsAfter 0 = .ok (.aload_n 0, 1) := by decide +kernel
theorem dX0_spotsAfter_1 : decode cX0_spotsAfter 1 = .ok (.getfield 12, 3) := by decide +kernel
theorem dX0_spotsAfter_4 : decode cX0_spotsAfter 4 = .ok (.aload_n 1, 1) := by decide +kernel
theorem dX0_spotsAfter_5 : decode cX0_spotsAfter 5 = .ok (.invokevirtual 33, 3) := by decide +kernel
theorem dX0_spotsAfter_8 : decode cX0_spotsAfter 8 = .ok (.aload_n 0, 1) := by decide +kernel
theorem dX0_spotsAfter_9 : decode cX0_spotsAfter 9 = .ok (.iload_n 2, 1) := by decide +kernel
theorem dX0_spotsAfter_10 : decode cX0_spotsAfter 10 = .ok (.invokevirtual 48, 3) := by decide +kernel
theorem dX0_spotsAfter_13 : decode cX0_spotsAfter 13 = .ok (.pop, 1) := by decide +kernel
theorem dX0_spotsAfter_14 : decode cX0_spotsAfter 14 = .ok (.aload_n 3, 1) := by decide +kernel
theorem dX0_spotsAfter_15 : decode cX0_spotsAfter 15 = .ok (.aload_n 0, 1) := by decide +kernel
theorem dX0_spotsAfter_16 : decode cX0_spotsAfter 16 = .ok (.getfield 12, 3) := by decide +kernel
theorem dX0_spotsAfter_19 : decode cX0_spotsAfter 19 = .ok (.getfield 68, 3) := by decide +kernel
theorem dX0_spotsAfter_22 : decode cX0_spotsAfter 22 = .ok (.iconst 0, 1) := by decide +kernel
theorem dX0_spotsAfter_23 : decode cX0_spotsAfter 23 = .ok (.invokevirtual 71, 3) := by decide +kernel
theorem dX0_spotsAfter_26 : decode cX0_spotsAfter 26 = .ok (.iconst 0, 1) := by decide +kernel
theorem dX0_spotsAfter_27 : decode cX0_spotsAfter 27 = .ok (.istore 4, 2) := by decide +kernel
theorem dX0_spotsAfter_29 : decode cX0_spotsAfter 29 = .ok (.iload 4, 2) := by decide +kernel
theorem dX0_spotsAfter_31 : decode cX0_spotsAfter 31 = .ok (.aload_n 0, 1) := by decide +kernel
theorem dX0_spotsAfter_32 : decode cX0_spotsAfter 32 = .ok (.getfield 12, 3) := by decide +kernel
theorem dX0_spotsAfter_35 : decode cX0_spotsAfter 35 = .ok (.getfield 68, 3) := by decide +kernel
theorem dX0_spotsAfter_38 : decode cX0_spotsAfter 38 = .ok (.if_icmp .ge 26, 3) := by decide +kernel
theorem dX0_spotsAfter_41 : decode cX0_spotsAfter 41 = .ok (.aload_n 3, 1) := by decide +kernel
theorem dX0_spotsAfter_42 : decode cX0_spotsAfter 42 = .ok (.iload 4, 2) := by decide +kernel
theorem dX0_spotsAfter_44 : decode cX0_spotsAfter 44 = .ok (.aload_n 0, 1) := by decide +kernel
theorem dX0_spotsAfter_45 : decode cX0_spotsAfter 45 = .ok (.getfield 12, 3) := by decide +kernel
theorem dX0_spotsAfter_48 : decode cX0_spotsAfter 48 = .ok (.getfield 37, 3) := by decide +kernel
theorem dX0_spotsAfter_51 : decode cX0_spotsAfter 51 = .ok (.iload 4, 2) := by decide +kernel
theorem dX0_spotsAfter_53 : decode cX0_spotsAfter 53 = .ok (.iaload, 1) := by decide +kernel
theorem dX0_spotsAfter_54 : decode cX0_spotsAfter 54 = .ok (.invokevirtual 77, 3) := by decide +kernel
theorem dX0_spotsAfter_57 : decode cX0_spotsAfter 57 = .ok (.pop, 1) := by decide +kernel
theorem dX0_spotsAfter_58 : decode cX0_spotsAfter 58 = .ok (.iinc 4 1, 3) := by decide +kernel
theorem dX0_spotsAfter_61 : decode cX0_spotsAfter 61 = .ok (.goto (-32), 3) := by decide +kernel
theorem dX0_spotsAfter_64 : decode cX0_spotsAfter 64 = .ok (.aload_n 0, 1) := by decide +kernel
theorem dX0_spotsAfter_65 : decode cX0_spotsAfter 65 = .ok (.getfield 12, 3) := by decide +kernel
theorem dX0_spotsAfter_68 : decode cX0_spotsAfter 68 = .ok (.invokevirtual 80, 3) := by decide +kernel
theorem dX0_spotsAfter_71 : decode cX0_spotsAfter 71 = .ok (.ireturn, 1) := by decide +kernel
theorem dX0_bestOrder_0 : decode cX0_bestOrder 0 = .ok (.aload_n 0, 1) := by decide +kernel
theorem dX0_bestOrder_1 : decode cX0_bestOrder 1 = .ok (.getfield 12, 3) := by decide +kernel
theorem dX0_bestOrder_4 : decode cX0_bestOrder 4 = .ok (.aload_n 1, 1) := by decide +kernel
theorem dX0_bestOrder_5 : decode cX0_bestOrder 5 = .ok (.invokevirtual 33, 3) := by decide +kernel
theorem dX0_bestOrder_8 : decode cX0_bestOrder 8 = .ok (.aload_n 3, 1) := by decide +kernel
theorem dX0_bestOrder_9 : decode cX0_bestOrder 9 = .ok (.aload_n 1, 1) := by decide +kernel
theorem dX0_bestOrder_10 : decode cX0_bestOrder 10 = .ok (.getfield 68, 3) := by decide +kernel
theorem dX0_bestOrder_13 : decode cX0_bestOrder 13 = .ok (.iconst 0, 1) := by decide +kernel
theorem dX0_bestOrder_14 : decode cX0_bestOrder 14 = .ok (.invokevirtual 71, 3) := by decide +kernel
theorem dX0_bestOrder_17 : decode cX0_bestOrder 17 = .ok (.iconst 0, 1) := by decide +kernel
theorem dX0_bestOrder_18 : decode cX0_bestOrder 18 = .ok (.istore 4, 2) := by decide +kernel
theorem dX0_bestOrder_20 : decode cX0_bestOrder 20 = .ok (.iload 4, 2) := by decide +kernel
theorem dX0_bestOrder_22 : decode cX0_bestOrder 22 = .ok (.aload_n 1, 1) := by decide +kernel
theorem dX0_bestOrder_23 : decode cX0_bestOrder 23 = .ok (.getfield 68, 3) := by decide +kernel
theorem dX0_bestOrder_26 : decode cX0_bestOrder 26 = .ok (.if_icmp .ge 18, 3) := by decide +kernel
theorem dX0_bestOrder_29 : decode cX0_bestOrder 29 = .ok (.aload_n 0, 1) := by decide +kernel
theorem dX0_bestOrder_30 : decode cX0_bestOrder 30 = .ok (.getfield 18, 3) := by decide +kernel
theorem dX0_bestOrder_33 : decode cX0_bestOrder 33 = .ok (.iload 4, 2) := by decide +kernel
theorem dX0_bestOrder_35 : decode cX0_bestOrder 35 = .ok (.iload 4, 2) := by decide +kernel
theorem dX0_bestOrder_37 : decode cX0_bestOrder 37 = .ok (.iastore, 1) := by decide +kernel
theorem dX0_bestOrder_38 : decode cX0_bestOrder 38 = .ok (.iinc 4 1, 3) := by decide +kernel
theorem dX0_bestOrder_41 : decode cX0_bestOrder 41 = .ok (.goto (-21), 3) := by decide +kernel
theorem dX0_bestOrder_44 : decode cX0_bestOrder 44 = .ok (.iconst (-1), 1) := by decide +kernel
theorem dX0_bestOrder_45 : decode cX0_bestOrder 45 = .ok (.istore 4, 2) := by decide +kernel
theorem dX0_bestOrder_47 : decode cX0_bestOrder 47 = .ok (.iconst 1, 1) := by decide +kernel
theorem dX0_bestOrder_48 : decode cX0_bestOrder 48 = .ok (.istore 5, 2) := by decide +kernel
theorem dX0_bestOrder_50 : decode cX0_bestOrder 50 = .ok (.iconst 0, 1) := by decide +kernel
theorem dX0_bestOrder_51 : decode cX0_bestOrder 51 = .ok (.istore 6, 2) := by decide +kernel
theorem dX0_bestOrder_53 : decode cX0_bestOrder 53 = .ok (.iload 6, 2) := by decide +kernel
theorem dX0_bestOrder_55 : decode cX0_bestOrder 55 = .ok (.sipush 720, 3) := by decide +kernel
theorem dX0_bestOrder_58 : decode cX0_bestOrder 58 = .ok (.if_icmp .ge 60, 3) := by decide +kernel
theorem dX0_bestOrder_61 : decode cX0_bestOrder 61 = .ok (.iload 5, 2) := by decide +kernel
theorem dX0_bestOrder_63 : decode cX0_bestOrder 63 = .ok (.ifCond .eq 55, 3) := by decide +kernel
theorem dX0_bestOrder_66 : decode cX0_bestOrder 66 = .ok (.aload_n 0, 1) := by decide +kernel
theorem dX0_bestOrder_67 : decode cX0_bestOrder 67 = .ok (.getfield 12, 3) := by decide +kernel
theorem dX0_bestOrder_70 : decode cX0_bestOrder 70 = .ok (.aload_n 1, 1) := by decide +kernel
theorem dX0_bestOrder_71 : decode cX0_bestOrder 71 = .ok (.invokevirtual 83, 3) := by decide +kernel
theorem dX0_bestOrder_74 : decode cX0_bestOrder 74 = .ok (.aload_n 0, 1) := by decide +kernel
theorem dX0_bestOrder_75 : decode cX0_bestOrder 75 = .ok (.aload_n 1, 1) := by decide +kernel
theorem dX0_bestOrder_76 : decode cX0_bestOrder 76 = .ok (.invokevirtual 86, 3) := by decide +kernel
theorem dX0_bestOrder_79 : decode cX0_bestOrder 79 = .ok (.aload_n 0, 1) := by decide +kernel
theorem dX0_bestOrder_80 : decode cX0_bestOrder 80 = .ok (.iload_n 2, 1) := by decide +kernel
theorem dX0_bestOrder_81 : decode cX0_bestOrder 81 = .ok (.invokevirtual 48, 3) := by decide +kernel
theorem dX0_bestOrder_84 : decode cX0_bestOrder 84 = .ok (.istore 7, 2) := by decide +kernel
theorem dX0_bestOrder_86 : decode cX0_bestOrder 86 = .ok (.iload 7, 2) := by decide +kernel
theorem dX0_bestOrder_88 : decode cX0_bestOrder 88 = .ok (.iload 4, 2) := by decide +kernel
theorem dX0_bestOrder_90 : decode cX0_bestOrder 90 = .ok (.if_icmp .le 12, 3) := by decide +kernel
theorem dX0_bestOrder_93 : decode cX0_bestOrder 93 = .ok (.iload 7, 2) := by decide +kernel
theorem dX0_bestOrder_95 : decode cX0_bestOrder 95 = .ok (.istore 4, 2) := by decide +kernel
theorem dX0_bestOrder_97 : decode cX0_bestOrder 97 = .ok (.aload_n 0, 1) := by decide +kernel
theorem dX0_bestOrder_98 : decode cX0_bestOrder 98 = .ok (.aload_n 3, 1) := by decide +kernel
theorem dX0_bestOrder_99 : decode cX0_bestOrder 99 = .ok (.invokevirtual 89, 3) := by decide +kernel
theorem dX0_bestOrder_102 : decode cX0_bestOrder 102 = .ok (.aload_n 0, 1) := by decide +kernel
theorem dX0_bestOrder_103 : decode cX0_bestOrder 103 = .ok (.aload_n 1, 1) := by decide +kernel
theorem dX0_bestOrder_104 : decode cX0_bestOrder 104 = .ok (.getfield 68, 3) := by decide +kernel
theorem dX0_bestOrder_107 : decode cX0_bestOrder 107 = .ok (.invokevirtual 93, 3) := by decide +kernel
theorem dX0_bestOrder_110 : decode cX0_bestOrder 110 = .ok (.istore 5, 2) := by decide +kernel
theorem dX0_bestOrder_112 : decode cX0_bestOrder 112 = .ok (.iinc 6 1, 3) := by decide +kernel
theorem dX0_bestOrder_115 : decode cX0_bestOrder 115 = .ok (.goto (-62), 3) := by decide +kernel
theorem dX0_bestOrder_118 : decode cX0_bestOrder 118 = .ok (.iload 4, 2) := by decide +kernel
theorem dX0_bestOrder_120 : decode cX0_bestOrder 120 = .ok (.ireturn, 1) := by decide +kernel
theorem dX0_shareWants_0 : decode cX0_shareWants 0 = .ok (.iconst 0, 1) := by decide +kernel
theorem dX0_shareWants_1 : decode cX0_shareWants 1 = .ok (.istore_n 2, 1) := by decide +kernel
theorem dX0_shareWants_2 : decode cX0_shareWants 2 = .ok (.iload_n 2, 1) := by decide +kernel
theorem dX0_shareWants_3 : decode cX0_shareWants 3 = .ok (.aload_n 1, 1) := by decide +kernel
theorem dX0_shareWants_4 : decode cX0_shareWants 4 = .ok (.getfield 68, 3) := by decide +kernel
theorem dX0_shareWants_7 : decode cX0_shareWants 7 = .ok (.if_icmp .ge 29, 3) := by decide +kernel
theorem dX0_shareWants_10 : decode cX0_shareWants 10 = .ok (.aload_n 0, 1) := by decide +kernel
theorem dX0_shareWants_11 : decode cX0_shareWants 11 = .ok (.getfield 12, 3) := by decide +kernel
theorem dX0_shareWants_14 : decode cX0_shareWants 14 = .ok (.getfield 30, 3) := by decide +kernel
theorem dX0_shareWants_17 : decode cX0_shareWants 17 = .ok (.iload_n 2, 1) := by decide +kernel
theorem dX0_shareWants_18 : decode cX0_shareWants 18 = .ok (.aload_n 1, 1) := by decide +kernel
theorem dX0_shareWants_19 : decode cX0_shareWants 19 = .ok (.getfield 30, 3) := by decide +kernel
theorem dX0_shareWants_22 : decode cX0_shareWants 22 = .ok (.aload_n 0, 1) := by decide +kernel
theorem dX0_shareWants_23 : decode cX0_shareWants 23 = .ok (.getfield 18, 3) := by decide +kernel
theorem dX0_shareWants_26 : decode cX0_shareWants 26 = .ok (.iload_n 2, 1) := by decide +kernel
theorem dX0_shareWants_27 : decode cX0_shareWants 27 = .ok (.iaload, 1) := by decide +kernel
theorem dX0_shareWants_28 : decode cX0_shareWants 28 = .ok (.iaload, 1) := by decide +kernel
theorem dX0_shareWants_29 : decode cX0_shareWants 29 = .ok (.iastore, 1) := by decide +kernel
theorem dX0_shareWants_30 : decode cX0_shareWants 30 = .ok (.iinc 2 1, 3) := by decide +kernel
theorem dX0_shareWants_33 : decode cX0_shareWants 33 = .ok (.goto (-31), 3) := by decide +kernel
theorem dX0_shareWants_36 : decode cX0_shareWants 36 = .ok (.return_, 1) := by decide +kernel
theorem dX0_layOrder_0 : decode cX0_layOrder 0 = .ok (.iconst 0, 1) := by decide +kernel
theorem dX0_layOrder_1 : decode cX0_layOrder 1 = .ok (.istore_n 2, 1) := by decide +kernel
theorem dX0_layOrder_2 : decode cX0_layOrder 2 = .ok (.iload_n 2, 1) := by decide +kernel
theorem dX0_layOrder_3 : decode cX0_layOrder 3 = .ok (.aload_n 1, 1) := by decide +kernel
theorem dX0_layOrder_4 : decode cX0_layOrder 4 = .ok (.invokevirtual 97, 3) := by decide +kernel
theorem dX0_layOrder_7 : decode cX0_layOrder 7 = .ok (.if_icmp .ge 21, 3) := by decide +kernel
theorem dX0_layOrder_10 : decode cX0_layOrder 10 = .ok (.aload_n 1, 1) := by decide +kernel
theorem dX0_layOrder_11 : decode cX0_layOrder 11 = .ok (.iload_n 2, 1) := by decide +kernel
theorem dX0_layOrder_12 : decode cX0_layOrder 12 = .ok (.aload_n 0, 1) := by decide +kernel
theorem dX0_layOrder_13 : decode cX0_layOrder 13 = .ok (.getfield 18, 3) := by decide +kernel
theorem dX0_layOrder_16 : decode cX0_layOrder 16 = .ok (.iload_n 2, 1) := by decide +kernel
theorem dX0_layOrder_17 : decode cX0_layOrder 17 = .ok (.iaload, 1) := by decide +kernel
theorem dX0_layOrder_18 : decode cX0_layOrder 18 = .ok (.invokevirtual 77, 3) := by decide +kernel
theorem dX0_layOrder_21 : decode cX0_layOrder 21 = .ok (.pop, 1) := by decide +kernel
theorem dX0_layOrder_22 : decode cX0_layOrder 22 = .ok (.iinc 2 1, 3) := by decide +kernel
theorem dX0_layOrder_25 : decode cX0_layOrder 25 = .ok (.goto (-23), 3) := by decide +kernel
theorem dX0_layOrder_28 : decode cX0_layOrder 28 = .ok (.return_, 1) := by decide +kernel
theorem dX0_nextOrder_0 : decode cX0_nextOrder 0 = .ok (.iload_n 1, 1) := by decide +kernel
theorem dX0_nextOrder_1 : decode cX0_nextOrder 1 = .ok (.iconst 2, 1) := by decide +kernel
theorem dX0_nextOrder_2 : decode cX0_nextOrder 2 = .ok (.isub, 1) := by decide +kernel
theorem dX0_nextOrder_3 : decode cX0_nextOrder 3 = .ok (.istore_n 2, 1) := by decide +kernel
theorem dX0_nextOrder_4 : decode cX0_nextOrder 4 = .ok (.iload_n 2, 1) := by decide +kernel
theorem dX0_nextOrder_5 : decode cX0_nextOrder 5 = .ok (.ifCond .lt 26, 3) := by decide +kernel
theorem dX0_nextOrder_8 : decode cX0_nextOrder 8 = .ok (.aload_n 0, 1) := by decide +kernel
theorem dX0_nextOrder_9 : decode cX0_nextOrder 9 = .ok (.getfield 18, 3) := by decide +kernel
theorem dX0_nextOrder_12 : decode cX0_nextOrder 12 = .ok (.iload_n 2, 1) := by decide +kernel
theorem dX0_nextOrder_13 : decode cX0_nextOrder 13 = .ok (.iaload, 1) := by decide +kernel
theorem dX0_nextOrder_14 : decode cX0_nextOrder 14 = .ok (.aload_n 0, 1) := by decide +kernel
theorem dX0_nextOrder_15 : decode cX0_nextOrder 15 = .ok (.getfield 18, 3) := by decide +kernel
theorem dX0_nextOrder_18 : decode cX0_nextOrder 18 = .ok (.iload_n 2, 1) := by decide +kernel
theorem dX0_nextOrder_19 : decode cX0_nextOrder 19 = .ok (.iconst 1, 1) := by decide +kernel
theorem dX0_nextOrder_20 : decode cX0_nextOrder 20 = .ok (.iadd, 1) := by decide +kernel
theorem dX0_nextOrder_21 : decode cX0_nextOrder 21 = .ok (.iaload, 1) := by decide +kernel
theorem dX0_nextOrder_22 : decode cX0_nextOrder 22 = .ok (.if_icmp .le 9, 3) := by decide +kernel
theorem dX0_nextOrder_25 : decode cX0_nextOrder 25 = .ok (.iinc 2 (-1), 3) := by decide +kernel
theorem dX0_nextOrder_28 : decode cX0_nextOrder 28 = .ok (.goto (-24), 3) := by decide +kernel
theorem dX0_nextOrder_31 : decode cX0_nextOrder 31 = .ok (.iload_n 2, 1) := by decide +kernel
theorem dX0_nextOrder_32 : decode cX0_nextOrder 32 = .ok (.ifCond .ge 5, 3) := by decide +kernel
theorem dX0_nextOrder_35 : decode cX0_nextOrder 35 = .ok (.iconst 0, 1) := by decide +kernel
theorem dX0_nextOrder_36 : decode cX0_nextOrder 36 = .ok (.ireturn, 1) := by decide +kernel
theorem dX0_nextOrder_37 : decode cX0_nextOrder 37 = .ok (.iload_n 1, 1) := by decide +kernel
theorem dX0_nextOrder_38 : decode cX0_nextOrder 38 = .ok (.iconst 1, 1) := by decide +kernel
theorem dX0_nextOrder_39 : decode cX0_nextOrder 39 = .ok (.isub, 1) := by decide +kernel
theorem dX0_nextOrder_40 : decode cX0_nextOrder 40 = .ok (.istore_n 3, 1) := by decide +kernel
theorem dX0_nextOrder_41 : decode cX0_nextOrder 41 = .ok (.iload_n 3, 1) := by decide +kernel
theorem dX0_nextOrder_42 : decode cX0_nextOrder 42 = .ok (.iload_n 2, 1) := by decide +kernel
theorem dX0_nextOrder_43 : decode cX0_nextOrder 43 = .ok (.if_icmp .le 24, 3) := by decide +kernel
theorem dX0_nextOrder_46 : decode cX0_nextOrder 46 = .ok (.aload_n 0, 1) := by decide +kernel
theorem dX0_nextOrder_47 : decode cX0_nextOrder 47 = .ok (.getfield 18, 3) := by decide +kernel
theorem dX0_nextOrder_50 : decode cX0_nextOrder 50 = .ok (.iload_n 3, 1) := by decide +kernel
theorem dX0_nextOrder_51 : decode cX0_nextOrder 51 = .ok (.iaload, 1) := by decide +kernel
theorem dX0_nextOrder_52 : decode cX0_nextOrder 52 = .ok (.aload_n 0, 1) := by decide +kernel
theorem dX0_nextOrder_53 : decode cX0_nextOrder 53 = .ok (.getfield 18, 3) := by decide +kernel
theorem dX0_nextOrder_56 : decode cX0_nextOrder 56 = .ok (.iload_n 2, 1) := by decide +kernel
theorem dX0_nextOrder_57 : decode cX0_nextOrder 57 = .ok (.iaload, 1) := by decide +kernel
theorem dX0_nextOrder_58 : decode cX0_nextOrder 58 = .ok (.if_icmp .ge 9, 3) := by decide +kernel
theorem dX0_nextOrder_61 : decode cX0_nextOrder 61 = .ok (.iinc 3 (-1), 3) := by decide +kernel
theorem dX0_nextOrder_64 : decode cX0_nextOrder 64 = .ok (.goto (-23), 3) := by decide +kernel
theorem dX0_nextOrder_67 : decode cX0_nextOrder 67 = .ok (.aload_n 0, 1) := by decide +kernel
theorem dX0_nextOrder_68 : decode cX0_nextOrder 68 = .ok (.iload_n 2, 1) := by decide +kernel
theorem dX0_nextOrder_69 : decode cX0_nextOrder 69 = .ok (.iload_n 3, 1) := by decide +kernel
theorem dX0_nextOrder_70 : decode cX0_nextOrder 70 = .ok (.invokevirtual 100, 3) := by decide +kernel
theorem dX0_nextOrder_73 : decode cX0_nextOrder 73 = .ok (.iload_n 2, 1) := by decide +kernel
theorem dX0_nextOrder_74 : decode cX0_nextOrder 74 = .ok (.iconst 1, 1) := by decide +kernel
theorem dX0_nextOrder_75 : decode cX0_nextOrder 75 = .ok (.iadd, 1) := by decide +kernel
theorem dX0_nextOrder_76 : decode cX0_nextOrder 76 = .ok (.istore 4, 2) := by decide +kernel
theorem dX0_nextOrder_78 : decode cX0_nextOrder 78 = .ok (.iload_n 1, 1) := by decide +kernel
theorem dX0_nextOrder_79 : decode cX0_nextOrder 79 = .ok (.iconst 1, 1) := by decide +kernel
theorem dX0_nextOrder_80 : decode cX0_nextOrder 80 = .ok (.isub, 1) := by decide +kernel
theorem dX0_nextOrder_81 : decode cX0_nextOrder 81 = .ok (.istore 5, 2) := by decide +kernel
theorem dX0_nextOrder_83 : decode cX0_nextOrder 83 = .ok (.iload 4, 2) := by decide +kernel
theorem dX0_nextOrder_85 : decode cX0_nextOrder 85 = .ok (.iload 5, 2) := by decide +kernel
theorem dX0_nextOrder_87 : decode cX0_nextOrder 87 = .ok (.if_icmp .ge 20, 3) := by decide +kernel
theorem dX0_nextOrder_90 : decode cX0_nextOrder 90 = .ok (.aload_n 0, 1) := by decide +kernel
theorem dX0_nextOrder_91 : decode cX0_nextOrder 91 = .ok (.iload 4, 2) := by decide +kernel
theorem dX0_nextOrder_93 : decode cX0_nextOrder 93 = .ok (.iload 5, 2) := by decide +kernel
theorem dX0_nextOrder_95 : decode cX0_nextOrder 95 = .ok (.invokevirtual 100, 3) := by decide +kernel
theorem dX0_nextOrder_98 : decode cX0_nextOrder 98 = .ok (.iinc 4 1, 3) := by decide +kernel
theorem dX0_nextOrder_101 : decode cX0_nextOrder 101 = .ok (.iinc 5 (-1), 3) := by decide +kernel
theorem dX0_nextOrder_104 : decode cX0_nextOrder 104 = .ok (.goto (-21), 3) := by decide +kernel
theorem dX0_nextOrder_107 : decode cX0_nextOrder 107 = .ok (.iconst 1, 1) := by decide +kernel
theorem dX0_nextOrder_108 : decode cX0_nextOrder 108 = .ok (.ireturn, 1) := by decide +kernel
theorem dX0_swap_0 : decode cX0_swap 0 = .ok (.aload_n 0, 1) := by decide +kernel
theorem dX0_swap_1 : decode cX0_swap 1 = .ok (.getfield 18, 3) := by decide +kernel
theorem dX0_swap_4 : decode cX0_swap 4 = .ok (.iload_n 1, 1) := by decide +kernel
theorem dX0_swap_5 : decode cX0_swap 5 = .ok (.iaload, 1) := by decide +kernel
theorem dX0_swap_6 : decode cX0_swap 6 = .ok (.istore_n 3, 1) := by decide +kernel
theorem dX0_swap_7 : decode cX0_swap 7 = .ok (.aload_n 0, 1) := by decide +kernel
theorem dX0_swap_8 : decode cX0_swap 8 = .ok (.getfield 18, 3) := by decide +kernel
theorem dX0_swap_11 : decode cX0_swap 11 = .ok (.iload_n 1, 1) := by decide +kernel
theorem dX0_swap_12 : decode cX0_swap 12 = .ok (.aload_n 0, 1) := by decide +kernel
theorem dX0_swap_13 : decode cX0_swap 13 = .ok (.getfield 18, 3) := by decide +kernel
theorem dX0_swap_16 : decode cX0_swap 16 = .ok (.iload_n 2, 1) := by decide +kernel
theorem dX0_swap_17 : decode cX0_swap 17 = .ok (.iaload, 1) := by decide +kernel
theorem dX0_swap_18 : decode cX0_swap 18 = .ok (.iastore, 1) := by decide +kernel
theorem dX0_swap_19 : decode cX0_swap 19 = .ok (.aload_n 0, 1) := by decide +kernel
theorem dX0_swap_20 : decode cX0_swap 20 = .ok (.getfield 18, 3) := by decide +kernel
theorem dX0_swap_23 : decode cX0_swap 23 = .ok (.iload_n 2, 1) := by decide +kernel
theorem dX0_swap_24 : decode cX0_swap 24 = .ok (.iload_n 3, 1) := by decide +kernel
theorem dX0_swap_25 : decode cX0_swap 25 = .ok (.iastore, 1) := by decide +kernel
theorem dX0_swap_26 : decode cX0_swap 26 = .ok (.return_, 1) := by decide +kernel
theorem dX0_bestPlace_0 : decode cX0_bestPlace 0 = .ok (.iconst 0, 1) := by decide +kernel
theorem dX0_bestPlace_1 : decode cX0_bestPlace 1 = .ok (.istore 4, 2) := by decide +kernel
theorem dX0_bestPlace_3 : decode cX0_bestPlace 3 = .ok (.aload_n 0, 1) := by decide +kernel
theorem dX0_bestPlace_4 : decode cX0_bestPlace 4 = .ok (.iconst (-1), 1) := by decide +kernel
theorem dX0_bestPlace_5 : decode cX0_bestPlace 5 = .ok (.putfield 44, 3) := by decide +kernel
theorem dX0_bestPlace_8 : decode cX0_bestPlace 8 = .ok (.aload_n 0, 1) := by decide +kernel
theorem dX0_bestPlace_9 : decode cX0_bestPlace 9 = .ok (.getfield 12, 3) := by decide +kernel
theorem dX0_bestPlace_12 : decode cX0_bestPlace 12 = .ok (.aload_n 1, 1) := by decide +kernel
theorem dX0_bestPlace_13 : decode cX0_bestPlace 13 = .ok (.invokevirtual 33, 3) := by decide +kernel
theorem dX0_bestPlace_16 : decode cX0_bestPlace 16 = .ok (.iconst 0, 1) := by decide +kernel
theorem dX0_bestPlace_17 : decode cX0_bestPlace 17 = .ok (.istore 5, 2) := by decide +kernel
theorem dX0_bestPlace_19 : decode cX0_bestPlace 19 = .ok (.iload 5, 2) := by decide +kernel
theorem dX0_bestPlace_21 : decode cX0_bestPlace 21 = .ok (.bipush 20, 2) := by decide +kernel
theorem dX0_bestPlace_23 : decode cX0_bestPlace 23 = .ok (.if_icmp .ge 78, 3) := by decide +kernel
theorem dX0_bestPlace_26 : decode cX0_bestPlace 26 = .ok (.aload_n 0, 1) := by decide +kernel
theorem dX0_bestPlace_27 : decode cX0_bestPlace 27 = .ok (.getfield 12, 3) := by decide +kernel
theorem dX0_bestPlace_30 : decode cX0_bestPlace 30 = .ok (.aload_n 1, 1) := by decide +kernel
theorem dX0_bestPlace_31 : decode cX0_bestPlace 31 = .ok (.invokevirtual 83, 3) := by decide +kernel
theorem dX0_bestPlace_34 : decode cX0_bestPlace 34 = .ok (.aload_n 0, 1) := by decide +kernel
theorem dX0_bestPlace_35 : decode cX0_bestPlace 35 = .ok (.getfield 12, 3) := by decide +kernel
theorem dX0_bestPlace_38 : decode cX0_bestPlace 38 = .ok (.getfield 103, 3) := by decide +kernel
theorem dX0_bestPlace_41 : decode cX0_bestPlace 41 = .ok (.iload_n 2, 1) := by decide +kernel
theorem dX0_bestPlace_42 : decode cX0_bestPlace 42 = .ok (.iload 5, 2) := by decide +kernel
theorem dX0_bestPlace_44 : decode cX0_bestPlace 44 = .ok (.iastore, 1) := by decide +kernel
theorem dX0_bestPlace_45 : decode cX0_bestPlace 45 = .ok (.aload_n 0, 1) := by decide +kernel
theorem dX0_bestPlace_46 : decode cX0_bestPlace 46 = .ok (.getfield 12, 3) := by decide +kernel
theorem dX0_bestPlace_49 : decode cX0_bestPlace 49 = .ok (.invokevirtual 106, 3) := by decide +kernel
theorem dX0_bestPlace_52 : decode cX0_bestPlace 52 = .ok (.aload_n 0, 1) := by decide +kernel
theorem dX0_bestPlace_53 : decode cX0_bestPlace 53 = .ok (.iload_n 3, 1) := by decide +kernel
theorem dX0_bestPlace_54 : decode cX0_bestPlace 54 = .ok (.invokevirtual 48, 3) := by decide +kernel
theorem dX0_bestPlace_57 : decode cX0_bestPlace 57 = .ok (.pop, 1) := by decide +kernel
theorem dX0_bestPlace_58 : decode cX0_bestPlace 58 = .ok (.aload_n 0, 1) := by decide +kernel
theorem dX0_bestPlace_59 : decode cX0_bestPlace 59 = .ok (.getfield 12, 3) := by decide +kernel
theorem dX0_bestPlace_62 : decode cX0_bestPlace 62 = .ok (.getfield 109, 3) := by decide +kernel
theorem dX0_bestPlace_65 : decode cX0_bestPlace 65 = .ok (.iload_n 2, 1) := by decide +kernel
theorem dX0_bestPlace_66 : decode cX0_bestPlace 66 = .ok (.iaload, 1) := by decide +kernel
theorem dX0_bestPlace_67 : decode cX0_bestPlace 67 = .ok (.aload_n 1, 1) := by decide +kernel
theorem dX0_bestPlace_68 : decode cX0_bestPlace 68 = .ok (.getfield 109, 3) := by decide +kernel
theorem dX0_bestPlace_71 : decode cX0_bestPlace 71 = .ok (.iload_n 2, 1) := by decide +kernel
theorem dX0_bestPlace_72 : decode cX0_bestPlace 72 = .ok (.iaload, 1) := by decide +kernel
theorem dX0_bestPlace_73 : decode cX0_bestPlace 73 = .ok (.isub, 1) := by decide +kernel
theorem dX0_bestPlace_74 : decode cX0_bestPlace 74 = .ok (.istore 6, 2) := by decide +kernel
theorem dX0_bestPlace_76 : decode cX0_bestPlace 76 = .ok (.iload 6, 2) := by decide +kernel
theorem dX0_bestPlace_78 : decode cX0_bestPlace 78 = .ok (.aload_n 0, 1) := by decide +kernel
theorem dX0_bestPlace_79 : decode cX0_bestPlace 79 = .ok (.getfield 44, 3) := by decide +kernel
theorem dX0_bestPlace_82 : decode cX0_bestPlace 82 = .ok (.if_icmp .le 13, 3) := by decide +kernel
theorem dX0_bestPlace_85 : decode cX0_bestPlace 85 = .ok (.aload_n 0, 1) := by decide +kernel
theorem dX0_bestPlace_86 : decode cX0_bestPlace 86 = .ok (.iload 6, 2) := by decide +kernel
theorem dX0_bestPlace_88 : decode cX0_bestPlace 88 = .ok (.putfield 44, 3) := by decide +kernel
theorem dX0_bestPlace_91 : decode cX0_bestPlace 91 = .ok (.iload 5, 2) := by decide +kernel
theorem dX0_bestPlace_93 : decode cX0_bestPlace 93 = .ok (.istore 4, 2) := by decide +kernel
theorem dX0_bestPlace_95 : decode cX0_bestPlace 95 = .ok (.iinc 5 1, 3) := by decide +kernel
theorem dX0_bestPlace_98 : decode cX0_bestPlace 98 = .ok (.goto (-79), 3) := by decide +kernel
theorem dX0_bestPlace_101 : decode cX0_bestPlace 101 = .ok (.iload 4, 2) := by decide +kernel
theorem dX0_bestPlace_103 : decode cX0_bestPlace 103 = .ok (.ireturn, 1) := by decide +kernel
theorem dX0_leastMissed_0 : decode cX0_leastMissed 0 = .ok (.aload_n 0, 1) := by decide +kernel
theorem dX0_leastMissed_1 : decode cX0_leastMissed 1 = .ok (.getfield 12, 3) := by decide +kernel
theorem dX0_leastMissed_4 : decode cX0_leastMissed 4 = .ok (.aload_n 1, 1) := by decide +kernel
theorem dX0_leastMissed_5 : decode cX0_leastMissed 5 = .ok (.invokevirtual 33, 3) := by decide +kernel
theorem dX0_leastMissed_8 : decode cX0_leastMissed 8 = .ok (.aload_n 0, 1) := by decide +kernel
theorem dX0_leastMissed_9 : decode cX0_leastMissed 9 = .ok (.iload_n 2, 1) := by decide +kernel
theorem dX0_leastMissed_10 : decode cX0_leastMissed 10 = .ok (.invokevirtual 48, 3) := by decide +kernel
theorem dX0_leastMissed_13 : decode cX0_leastMissed 13 = .ok (.istore_n 3, 1) := by decide +kernel
theorem dX0_leastMissed_14 : decode cX0_leastMissed 14 = .ok (.aload_n 0, 1) := by decide +kernel
theorem dX0_leastMissed_15 : decode cX0_leastMissed 15 = .ok (.aload_n 1, 1) := by decide +kernel
theorem dX0_leastMissed_16 : decode cX0_leastMissed 16 = .ok (.invokevirtual 112, 3) := by decide +kernel
theorem dX0_leastMissed_19 : decode cX0_leastMissed 19 = .ok (.istore 4, 2) := by decide +kernel
theorem dX0_leastMissed_21 : decode cX0_leastMissed 21 = .ok (.iconst 0, 1) := by decide +kernel
theorem dX0_leastMissed_22 : decode cX0_leastMissed 22 = .ok (.istore 5, 2) := by decide +kernel
theorem dX0_leastMissed_24 : decode cX0_leastMissed 24 = .ok (.iconst 0, 1) := by decide +kernel
theorem dX0_leastMissed_25 : decode cX0_leastMissed 25 = .ok (.istore 6, 2) := by decide +kernel
theorem dX0_leastMissed_27 : decode cX0_leastMissed 27 = .ok (.iload 6, 2) := by decide +kernel
theorem dX0_leastMissed_29 : decode cX0_leastMissed 29 = .ok (.aload_n 1, 1) := by decide +kernel
theorem dX0_leastMissed_30 : decode cX0_leastMissed 30 = .ok (.getfield 68, 3) := by decide +kernel
theorem dX0_leastMissed_33 : decode cX0_leastMissed 33 = .ok (.if_icmp .ge 81, 3) := by decide +kernel
theorem dX0_leastMissed_36 : decode cX0_leastMissed 36 = .ok (.aload_n 0, 1) := by decide +kernel
theorem dX0_leastMissed_37 : decode cX0_leastMissed 37 = .ok (.getfield 12, 3) := by decide +kernel
theorem dX0_leastMissed_40 : decode cX0_leastMissed 40 = .ok (.aload_n 1, 1) := by decide +kernel
theorem dX0_leastMissed_41 : decode cX0_leastMissed 41 = .ok (.invokevirtual 83, 3) := by decide +kernel
theorem dX0_leastMissed_44 : decode cX0_leastMissed 44 = .ok (.aload_n 0, 1) := by decide +kernel
theorem dX0_leastMissed_45 : decode cX0_leastMissed 45 = .ok (.getfield 12, 3) := by decide +kernel
theorem dX0_leastMissed_48 : decode cX0_leastMissed 48 = .ok (.getfield 30, 3) := by decide +kernel
theorem dX0_leastMissed_51 : decode cX0_leastMissed 51 = .ok (.iload 6, 2) := by decide +kernel
theorem dX0_leastMissed_53 : decode cX0_leastMissed 53 = .ok (.iconst 4, 1) := by decide +kernel
theorem dX0_leastMissed_54 : decode cX0_leastMissed 54 = .ok (.iastore, 1) := by decide +kernel
theorem dX0_leastMissed_55 : decode cX0_leastMissed 55 = .ok (.iload_n 3, 1) := by decide +kernel
theorem dX0_leastMissed_56 : decode cX0_leastMissed 56 = .ok (.iload 4, 2) := by decide +kernel
theorem dX0_leastMissed_58 : decode cX0_leastMissed 58 = .ok (.iload 6, 2) := by decide +kernel
theorem dX0_leastMissed_60 : decode cX0_leastMissed 60 = .ok (.invokestatic 116, 3) := by decide +kernel
theorem dX0_leastMissed_63 : decode cX0_leastMissed 63 = .ok (.ifCond .eq 7, 3) := by decide +kernel
theorem dX0_leastMissed_66 : decode cX0_leastMissed 66 = .ok (.iconst 1, 1) := by decide +kernel
theorem dX0_leastMissed_67 : decode cX0_leastMissed 67 = .ok (.goto 4, 3) := by decide +kernel
theorem dX0_leastMissed_70 : decode cX0_leastMissed 70 = .ok (.iconst 0, 1) := by decide +kernel
theorem dX0_leastMissed_71 : decode cX0_leastMissed 71 = .ok (.isub, 1) := by decide +kernel
theorem dX0_leastMissed_72 : decode cX0_leastMissed 72 = .ok (.istore 7, 2) := by decide +kernel
theorem dX0_leastMissed_74 : decode cX0_leastMissed 74 = .ok (.iload 7, 2) := by decide +kernel
theorem dX0_leastMissed_76 : decode cX0_leastMissed 76 = .ok (.aload_n 0, 1) := by decide +kernel
theorem dX0_leastMissed_77 : decode cX0_leastMissed 77 = .ok (.iload_n 2, 1) := by decide +kernel
theorem dX0_leastMissed_78 : decode cX0_leastMissed 78 = .ok (.invokevirtual 48, 3) := by decide +kernel
theorem dX0_leastMissed_81 : decode cX0_leastMissed 81 = .ok (.isub, 1) := by decide +kernel
theorem dX0_leastMissed_82 : decode cX0_leastMissed 82 = .ok (.istore 8, 2) := by decide +kernel
theorem dX0_leastMissed_84 : decode cX0_leastMissed 84 = .ok (.iload 6, 2) := by decide +kernel
theorem dX0_leastMissed_86 : decode cX0_leastMissed 86 = .ok (.ifCond .eq 12, 3) := by decide +kernel
theorem dX0_leastMissed_89 : decode cX0_leastMissed 89 = .ok (.iload 8, 2) := by decide +kernel
theorem dX0_leastMissed_91 : decode cX0_leastMissed 91 = .ok (.aload_n 0, 1) := by decide +kernel
theorem dX0_leastMissed_92 : decode cX0_leastMissed 92 = .ok (.getfield 44, 3) := by decide +kernel
theorem dX0_leastMissed_95 : decode cX0_leastMissed 95 = .ok (.if_icmp .ge 13, 3) := by decide +kernel
theorem dX0_leastMissed_98 : decode cX0_leastMissed 98 = .ok (.aload_n 0, 1) := by decide +kernel
theorem dX0_leastMissed_99 : decode cX0_leastMissed 99 = .ok (.iload 8, 2) := by decide +kernel
theorem dX0_leastMissed_101 : decode cX0_leastMissed 101 = .ok (.putfield 44, 3) := by decide +kernel
theorem dX0_leastMissed_104 : decode cX0_leastMissed 104 = .ok (.iload 6, 2) := by decide +kernel
theorem dX0_leastMissed_106 : decode cX0_leastMissed 106 = .ok (.istore 5, 2) := by decide +kernel
theorem dX0_leastMissed_108 : decode cX0_leastMissed 108 = .ok (.iinc 6 1, 3) := by decide +kernel
theorem dX0_leastMissed_111 : decode cX0_leastMissed 111 = .ok (.goto (-84), 3) := by decide +kernel
theorem dX0_leastMissed_114 : decode cX0_leastMissed 114 = .ok (.iload 5, 2) := by decide +kernel
theorem dX0_leastMissed_116 : decode cX0_leastMissed 116 = .ok (.ireturn, 1) := by decide +kernel
theorem dX0_whoBought_0 : decode cX0_whoBought 0 = .ok (.iconst 0, 1) := by decide +kernel
theorem dX0_whoBought_1 : decode cX0_whoBought 1 = .ok (.istore_n 2, 1) := by decide +kernel
theorem dX0_whoBought_2 : decode cX0_whoBought 2 = .ok (.iconst 0, 1) := by decide +kernel
theorem dX0_whoBought_3 : decode cX0_whoBought 3 = .ok (.istore_n 3, 1) := by decide +kernel
theorem dX0_whoBought_4 : decode cX0_whoBought 4 = .ok (.iload_n 3, 1) := by decide +kernel
theorem dX0_whoBought_5 : decode cX0_whoBought 5 = .ok (.aload_n 1, 1) := by decide +kernel
theorem dX0_whoBought_6 : decode cX0_whoBought 6 = .ok (.getfield 68, 3) := by decide +kernel
theorem dX0_whoBought_9 : decode cX0_whoBought 9 = .ok (.if_icmp .ge 33, 3) := by decide +kernel
theorem dX0_whoBought_12 : decode cX0_whoBought 12 = .ok (.aload_n 1, 1) := by decide +kernel
theorem dX0_whoBought_13 : decode cX0_whoBought 13 = .ok (.getfield 30, 3) := by decide +kernel
theorem dX0_whoBought_16 : decode cX0_whoBought 16 = .ok (.iload_n 3, 1) := by decide +kernel
theorem dX0_whoBought_17 : decode cX0_whoBought 17 = .ok (.iaload, 1) := by decide +kernel
theorem dX0_whoBought_18 : decode cX0_whoBought 18 = .ok (.aload_n 0, 1) := by decide +kernel
theorem dX0_whoBought_19 : decode cX0_whoBought 19 = .ok (.getfield 12, 3) := by decide +kernel
theorem dX0_whoBought_22 : decode cX0_whoBought 22 = .ok (.getfield 30, 3) := by decide +kernel
theorem dX0_whoBought_25 : decode cX0_whoBought 25 = .ok (.iload_n 3, 1) := by decide +kernel
theorem dX0_whoBought_26 : decode cX0_whoBought 26 = .ok (.iaload, 1) := by decide +kernel
theorem dX0_whoBought_27 : decode cX0_whoBought 27 = .ok (.if_icmp .eq 9, 3) := by decide +kernel
theorem dX0_whoBought_30 : decode cX0_whoBought 30 = .ok (.iload_n 2, 1) := by decide +kernel
theorem dX0_whoBought_31 : decode cX0_whoBought 31 = .ok (.iconst 1, 1) := by decide +kernel
theorem dX0_whoBought_32 : decode cX0_whoBought 32 = .ok (.iload_n 3, 1) := by decide +kernel
theorem dX0_whoBought_33 : decode cX0_whoBought 33 = .ok (.ishl, 1) := by decide +kernel
theorem dX0_whoBought_34 : decode cX0_whoBought 34 = .ok (.ior, 1) := by decide +kernel
theorem dX0_whoBought_35 : decode cX0_whoBought 35 = .ok (.istore_n 2, 1) := by decide +kernel
theorem dX0_whoBought_36 : decode cX0_whoBought 36 = .ok (.iinc 3 1, 3) := by decide +kernel
theorem dX0_whoBought_39 : decode cX0_whoBought 39 = .ok (.goto (-35), 3) := by decide +kernel
theorem dX0_whoBought_42 : decode cX0_whoBought 42 = .ok (.iload_n 2, 1) := by decide +kernel
theorem dX0_whoBought_43 : decode cX0_whoBought 43 = .ok (.ireturn, 1) := by decide +kernel
theorem dX1_init_0 : decode cX1_init 0 = .ok (.aload_n 0, 1) := by decide +kernel
theorem dX1_init_1 : decode cX1_init 1 = .ok (.invokespecial 3, 3) := by decide +kernel
theorem dX1_init_4 : decode cX1_init 4 = .ok (.aload_n 0, 1) := by decide +kernel
theorem dX1_init_5 : decode cX1_init 5 = .ok (.sipush 1440, 3) := by decide +kernel
theorem dX1_init_8 : decode cX1_init 8 = .ok (.newarray .int, 2) := by decide +kernel
theorem dX1_init_10 : decode cX1_init 10 = .ok (.putfield 11, 3) := by decide +kernel
theorem dX1_init_13 : decode cX1_init 13 = .ok (.return_, 1) := by decide +kernel
theorem dX1_first_0 : decode cX1_first 0 = .ok (.aload_n 0, 1) := by decide +kernel
theorem dX1_first_1 : decode cX1_first 1 = .ok (.getfield 15, 3) := by decide +kernel
theorem dX1_first_4 : decode cX1_first 4 = .ok (.ireturn, 1) := by decide +kernel
theorem dX1_beginAt_0 : decode cX1_beginAt 0 = .ok (.aload_n 0, 1) := by decide +kernel
theorem dX1_beginAt_1 : decode cX1_beginAt 1 = .ok (.iload_n 1, 1) := by decide +kernel
theorem dX1_beginAt_2 : decode cX1_beginAt 2 = .ok (.putfield 15, 3) := by decide +kernel
theorem dX1_beginAt_5 : decode cX1_beginAt 5 = .ok (.return_, 1) := by decide +kernel
theorem dX1_save_0 : decode cX1_save 0 = .ok (.aload_n 1, 1) := by decide +kernel
theorem dX1_save_1 : decode cX1_save 1 = .ok (.getfield 19, 3) := by decide +kernel
theorem dX1_save_4 : decode cX1_save 4 = .ok (.bipush 60, 2) := by decide +kernel
theorem dX1_save_6 : decode cX1_save 6 = .ok (.invokestatic 24, 3) := by decide +kernel
theorem dX1_save_9 : decode cX1_save 9 = .ok (.ifCond .ne 4, 3) := by decide +kernel
theorem dX1_save_12 : decode cX1_save 12 = .ok (.return_, 1) := by decide +kernel
theorem dX1_save_13 : decode cX1_save 13 = .ok (.aload_n 1, 1) := by decide +kernel
theorem dX1_save_14 : decode cX1_save 14 = .ok (.getfield 19, 3) := by decide +kernel
theorem dX1_save_17 : decode cX1_save 17 = .ok (.bipush 24, 2) := by decide +kernel
theorem dX1_save_19 : decode cX1_save 19 = .ok (.imul, 1) := by decide +kernel
theorem dX1_save_20 : decode cX1_save 20 = .ok (.istore_n 2, 1) := by decide +kernel
theorem dX1_save_21 : decode cX1_save 21 = .ok (.aload_n 1, 1) := by decide +kernel
theorem dX1_save_22 : decode cX1_save 22 = .ok (.getfield 28, 3) := by decide +kernel
theorem dX1_save_25 : decode cX1_save 25 = .ok (.iconst 0, 1) := by decide +kernel
theorem dX1_save_26 : decode cX1_save 26 = .ok (.aload_n 0, 1) := by decide +kernel
theorem dX1_save_27 : decode cX1_save 27 = .ok (.getfield 11, 3) := by decide +kernel
theorem dX1_save_30 : decode cX1_save 30 = .ok (.iload_n 2, 1) := by decide +kernel
theorem dX1_save_31 : decode cX1_save 31 = .ok (.bipush 6, 2) := by decide +kernel
theorem dX1_save_33 : decode cX1_save 33 = .ok (.invokestatic 31, 3) := by decide +kernel
theorem dX1_save_36 : decode cX1_save 36 = .ok (.aload_n 1, 1) := by decide +kernel
theorem dX1_save_37 : decode cX1_save 37 = .ok (.getfield 37, 3) := by decide +kernel
theorem dX1_save_40 : decode cX1_save 40 = .ok (.iconst 0, 1) := by decide +kernel
theorem dX1_save_41 : decode cX1_save 41 = .ok (.aload_n 0, 1) := by decide +kernel
theorem dX1_save_42 : decode cX1_save 42 = .ok (.getfield 11, 3) := by decide +kernel
theorem dX1_save_45 : decode cX1_save 45 = .ok (.iload_n 2, 1) := by decide +kernel
theorem dX1_save_46 : decode cX1_save 46 = .ok (.bipush 6, 2) := by decide +kernel
theorem dX1_save_48 : decode cX1_save 48 = .ok (.iadd, 1) := by decide +kernel
theorem dX1_save_49 : decode cX1_save 49 = .ok (.bipush 6, 2) := by decide +kernel
theorem dX1_save_51 : decode cX1_save 51 = .ok (.invokestatic 31, 3) := by decide +kernel
theorem dX1_save_54 : decode cX1_save 54 = .ok (.aload_n 1, 1) := by decide +kernel
theorem dX1_save_55 : decode cX1_save 55 = .ok (.getfield 40, 3) := by decide +kernel
theorem dX1_save_58 : decode cX1_save 58 = .ok (.iconst 0, 1) := by decide +kernel
theorem dX1_save_59 : decode cX1_save 59 = .ok (.aload_n 0, 1) := by decide +kernel
theorem dX1_save_60 : decode cX1_save 60 = .ok (.getfield 11, 3) := by decide +kernel
theorem dX1_save_63 : decode cX1_save 63 = .ok (.iload_n 2, 1) := by decide +kernel
theorem dX1_save_64 : decode cX1_save 64 = .ok (.bipush 12, 2) := by decide +kernel
theorem dX1_save_66 : decode cX1_save 66 = .ok (.iadd, 1) := by decide +kernel
theorem dX1_save_67 : decode cX1_save 67 = .ok (.bipush 6, 2) := by decide +kernel
theorem dX1_save_69 : decode cX1_save 69 = .ok (.invokestatic 31, 3) := by decide +kernel
theorem dX1_save_72 : decode cX1_save 72 = .ok (.aload_n 1, 1) := by decide +kernel
theorem dX1_save_73 : decode cX1_save 73 = .ok (.getfield 43, 3) := by decide +kernel
theorem dX1_save_76 : decode cX1_save 76 = .ok (.iconst 0, 1) := by decide +kernel
theorem dX1_save_77 : decode cX1_save 77 = .ok (.aload_n 0, 1) := by decide +kernel
theorem dX1_save_78 : decode cX1_save 78 = .ok (.getfield 11, 3) := by decide +kernel
theorem dX1_save_81 : decode cX1_save 81 = .ok (.iload_n 2, 1) := by decide +kernel
theorem dX1_save_82 : decode cX1_save 82 = .ok (.bipush 18, 2) := by decide +kernel
theorem dX1_save_84 : decode cX1_save 84 = .ok (.iadd, 1) := by decide +kernel
theorem dX1_save_85 : decode cX1_save 85 = .ok (.bipush 6, 2) := by decide +kernel
theorem dX1_save_87 : decode cX1_save 87 = .ok (.invokestatic 31, 3) := by decide +kernel
theorem dX1_save_90 : decode cX1_save 90 = .ok (.return_, 1) := by decide +kernel
theorem dX1_goBack_0 : decode cX1_goBack 0 = .ok (.iload_n 2, 1) := by decide +kernel
theorem dX1_goBack_1 : decode cX1_goBack 1 = .ok (.bipush 60, 2) := by decide +kernel
theorem dX1_goBack_3 : decode cX1_goBack 3 = .ok (.invokestatic 24, 3) := by decide +kernel
theorem dX1_goBack_6 : decode cX1_goBack 6 = .ok (.ifCond .ne 4, 3) := by decide +kernel
theorem dX1_goBack_9 : decode cX1_goBack 9 = .ok (.return_, 1) := by decide +kernel
theorem dX1_goBack_10 : decode cX1_goBack 10 = .ok (.iload_n 2, 1) := by decide +kernel
theorem dX1_goBack_11 : decode cX1_goBack 11 = .ok (.bipush 24, 2) := by decide +kernel
theorem dX1_goBack_13 : decode cX1_goBack 13 = .ok (.imul, 1) := by decide +kernel
theorem dX1_goBack_14 : decode cX1_goBack 14 = .ok (.istore_n 3, 1) := by decide +kernel
theorem dX1_goBack_15 : decode cX1_goBack 15 = .ok (.aload_n 0, 1) := by decide +kernel
theorem dX1_goBack_16 : decode cX1_goBack 16 = .ok (.getfield 11, 3) := by decide +kernel
theorem dX1_goBack_19 : decode cX1_goBack 19 = .ok (.iload_n 3, 1) := by decide +kernel
theorem dX1_goBack_20 : decode cX1_goBack 20 = .ok (.aload_n 1, 1) := by decide +kernel
theorem dX1_goBack_21 : decode cX1_goBack 21 = .ok (.getfield 28, 3) := by decide +kernel
theorem dX1_goBack_24 : decode cX1_goBack 24 = .ok (.iconst 0, 1) := by decide +kernel
theorem dX1_goBack_25 : decode cX1_goBack 25 = .ok (.bipush 6, 2) := by decide +kernel
theorem dX1_goBack_27 : decode cX1_goBack 27 = .ok (.invokestatic 31, 3) := by decide +kernel
theorem dX1_goBack_30 : decode cX1_goBack 30 = .ok (.aload_n 0, 1) := by decide +kernel
theorem dX1_goBack_31 : decode cX1_goBack 31 = .ok (.getfield 11, 3) := by decide +kernel
theorem dX1_goBack_34 : decode cX1_goBack 34 = .ok (.iload_n 3, 1) := by decide +kernel
theorem dX1_goBack_35 : decode cX1_goBack 35 = .ok (.bipush 6, 2) := by decide +kernel
theorem dX1_goBack_37 : decode cX1_goBack 37 = .ok (.iadd, 1) := by decide +kernel
theorem dX1_goBack_38 : decode cX1_goBack 38 = .ok (.aload_n 1, 1) := by decide +kernel
theorem dX1_goBack_39 : decode cX1_goBack 39 = .ok (.getfield 37, 3) := by decide +kernel
theorem dX1_goBack_42 : decode cX1_goBack 42 = .ok (.iconst 0, 1) := by decide +kernel
theorem dX1_goBack_43 : decode cX1_goBack 43 = .ok (.bipush 6, 2) := by decide +kernel
theorem dX1_goBack_45 : decode cX1_goBack 45 = .ok (.invokestatic 31, 3) := by decide +kernel
theorem dX1_goBack_48 : decode cX1_goBack 48 = .ok (.aload_n 0, 1) := by decide +kernel
theorem dX1_goBack_49 : decode cX1_goBack 49 = .ok (.getfield 11, 3) := by decide +kernel
theorem dX1_goBack_52 : decode cX1_goBack 52 = .ok (.iload_n 3, 1) := by decide +kernel
theorem dX1_goBack_53 : decode cX1_goBack 53 = .ok (.bipush 12, 2) := by decide +kernel
theorem dX1_goBack_55 : decode cX1_goBack 55 = .ok (.iadd, 1) := by decide +kernel
theorem dX1_goBack_56 : decode cX1_goBack 56 = .ok (.aload_n 1, 1) := by decide +kernel
theorem dX1_goBack_57 : decode cX1_goBack 57 = .ok (.getfield 40, 3) := by decide +kernel
theorem dX1_goBack_60 : decode cX1_goBack 60 = .ok (.iconst 0, 1) := by decide +kernel
theorem dX1_goBack_61 : decode cX1_goBack 61 = .ok (.bipush 6, 2) := by decide +kernel
theorem dX1_goBack_63 : decode cX1_goBack 63 = .ok (.invokestatic 31, 3) := by decide +kernel
theorem dX1_goBack_66 : decode cX1_goBack 66 = .ok (.aload_n 0, 1) := by decide +kernel
theorem dX1_goBack_67 : decode cX1_goBack 67 = .ok (.getfield 11, 3) := by decide +kernel
theorem dX1_goBack_70 : decode cX1_goBack 70 = .ok (.iload_n 3, 1) := by decide +kernel
theorem dX1_goBack_71 : decode cX1_goBack 71 = .ok (.bipush 18, 2) := by decide +kernel
theorem dX1_goBack_73 : decode cX1_goBack 73 = .ok (.iadd, 1) := by decide +kernel
theorem dX1_goBack_74 : decode cX1_goBack 74 = .ok (.aload_n 1, 1) := by decide +kernel
theorem dX1_goBack_75 : decode cX1_goBack 75 = .ok (.getfield 43, 3) := by decide +kernel
theorem dX1_goBack_78 : decode cX1_goBack 78 = .ok (.iconst 0, 1) := by decide +kernel
theorem dX1_goBack_79 : decode cX1_goBack 79 = .ok (.bipush 6, 2) := by decide +kernel
theorem dX1_goBack_81 : decode cX1_goBack 81 = .ok (.invokestatic 31, 3) := by decide +kernel
theorem dX1_goBack_84 : decode cX1_goBack 84 = .ok (.aload_n 1, 1) := by decide +kernel
theorem dX1_goBack_85 : decode cX1_goBack 85 = .ok (.iload_n 2, 1) := by decide +kernel
theorem dX1_goBack_86 : decode cX1_goBack 86 = .ok (.putfield 19, 3) := by decide +kernel
theorem dX1_goBack_89 : decode cX1_goBack 89 = .ok (.return_, 1) := by decide +kernel
theorem dX2_init_0 : decode cX2_init 0 = .ok (.aload_n 0, 1) := by decide +kernel
theorem dX2_init_1 : decode cX2_init 1 = .ok (.invokespecial 3, 3) := by decide +kernel
theorem dX2_init_4 : decode cX2_init 4 = .ok (.aload_n 0, 1) := by decide +kernel
theorem dX2_init_5 : decode cX2_init 5 = .ok (.bipush 6, 2) := by decide +kernel
theorem dX2_init_7 : decode cX2_init 7 = .ok (.newarray .int, 2) := by decide +kernel
theorem dX2_init_9 : decode cX2_init 9 = .ok (.putfield 9, 3) := by decide +kernel
theorem dX2_init_12 : decode cX2_init 12 = .ok (.aload_n 0, 1) := by decide +kernel
theorem dX2_init_13 : decode cX2_init 13 = .ok (.bipush 6, 2) := by decide +kernel
theorem dX2_init_15 : decode cX2_init 15 = .ok (.newarray .int, 2) := by decide +kernel
theorem dX2_init_17 : decode cX2_init 17 = .ok (.putfield 15, 3) := by decide +kernel
theorem dX2_init_20 : decode cX2_init 20 = .ok (.aload_n 0, 1) := by decide +kernel
theorem dX2_init_21 : decode cX2_init 21 = .ok (.bipush 6, 2) := by decide +kernel
theorem dX2_init_23 : decode cX2_init 23 = .ok (.newarray .int, 2) := by decide +kernel
theorem dX2_init_25 : decode cX2_init 25 = .ok (.putfield 18, 3) := by decide +kernel
theorem dX2_init_28 : decode cX2_init 28 = .ok (.aload_n 0, 1) := by decide +kernel
theorem dX2_init_29 : decode cX2_init 29 = .ok (.bipush 6, 2) := by decide +kernel
theorem dX2_init_31 : decode cX2_init 31 = .ok (.newarray .int, 2) := by decide +kernel
theorem dX2_init_33 : decode cX2_init 33 = .ok (.putfield 21, 3) := by decide +kernel
theorem dX2_init_36 : decode cX2_init 36 = .ok (.aload_n 0, 1) := by decide +kernel
theorem dX2_init_37 : decode cX2_init 37 = .ok (.bipush 6, 2) := by decide +kernel
theorem dX2_init_39 : decode cX2_init 39 = .ok (.newarray .int, 2) := by decide +kernel
theorem dX2_init_41 : decode cX2_init 41 = .ok (.putfield 24, 3) := by decide +kernel
theorem dX2_init_44 : decode cX2_init 44 = .ok (.aload_n 0, 1) := by decide +kernel
theorem dX2_init_45 : decode cX2_init 45 = .ok (.bipush 6, 2) := by decide +kernel
theorem dX2_init_47 : decode cX2_init 47 = .ok (.newarray .int, 2) := by decide +kernel
theorem dX2_init_49 : decode cX2_init 49 = .ok (.putfield 27, 3) := by decide +kernel
theorem dX2_init_52 : decode cX2_init 52 = .ok (.aload_n 0, 1) := by decide +kernel
theorem dX2_init_53 : decode cX2_init 53 = .ok (.bipush 6, 2) := by decide +kernel
theorem dX2_init_55 : decode cX2_init 55 = .ok (.newarray .int, 2) := by decide +kernel
theorem dX2_init_57 : decode cX2_init 57 = .ok (.putfield 30, 3) := by decide +kernel
theorem dX2_init_60 : decode cX2_init 60 = .ok (.aload_n 0, 1) := by decide +kernel
theorem dX2_init_61 : decode cX2_init 61 = .ok (.bipush 6, 2) := by decide +kernel
theorem dX2_init_63 : decode cX2_init 63 = .ok (.newarray .int, 2) := by decide +kernel
theorem dX2_init_65 : decode cX2_init 65 = .ok (.putfield 33, 3) := by decide +kernel
theorem dX2_init_68 : decode cX2_init 68 = .ok (.aload_n 0, 1) := by decide +kernel
theorem dX2_init_69 : decode cX2_init 69 = .ok (.bipush 6, 2) := by decide +kernel
theorem dX2_init_71 : decode cX2_init 71 = .ok (.newarray .int, 2) := by decide +kernel
theorem dX2_init_73 : decode cX2_init 73 = .ok (.putfield 36, 3) := by decide +kernel
theorem dX2_init_76 : decode cX2_init 76 = .ok (.aload_n 0, 1) := by decide +kernel
theorem dX2_init_77 : decode cX2_init 77 = .ok (.sipush 200, 3) := by decide +kernel
theorem dX2_init_80 : decode cX2_init 80 = .ok (.newarray .int, 2) := by decide +kernel
theorem dX2_init_82 : decode cX2_init 82 = .ok (.putfield 39, 3) := by decide +kernel
theorem dX2_init_85 : decode cX2_init 85 = .ok (.return_, 1) := by decide +kernel
theorem dX2_clear_0 : decode cX2_clear 0 = .ok (.aload_n 0, 1) := by decide +kernel
theorem dX2_clear_1 : decode cX2_clear 1 = .ok (.iconst 0, 1) := by decide +kernel
theorem dX2_clear_2 : decode cX2_clear 2 = .ok (.putfield 42, 3) := by decide +kernel
theorem dX2_clear_5 : decode cX2_clear 5 = .ok (.aload_n 0, 1) := by decide +kernel
theorem dX2_clear_6 : decode cX2_clear 6 = .ok (.iconst 0, 1) := by decide +kernel
theorem dX2_clear_7 : decode cX2_clear 7 = .ok (.putfield 46, 3) := by decide +kernel
theorem dX2_clear_10 : decode cX2_clear 10 = .ok (.aload_n 0, 1) := by decide +kernel
theorem dX2_clear_11 : decode cX2_clear 11 = .ok (.iconst 0, 1) := by decide +kernel
theorem dX2_clear_12 : decode cX2_clear 12 = .ok (.putfield 49, 3) := by decide +kernel
theorem dX2_clear_15 : decode cX2_clear 15 = .ok (.aload_n 0, 1) := by decide +kernel
theorem dX2_clear_16 : decode cX2_clear 16 = .ok (.iconst 0, 1) := by decide +kernel
theorem dX2_clear_17 : decode cX2_clear 17 = .ok (.putfield 52, 3) := by decide +kernel
theorem dX2_clear_20 : decode cX2_clear 20 = .ok (.return_, 1) := by decide +kernel
theorem dX2_addStall_0 : decode cX2_addStall 0 = .ok (.aload_n 0, 1) := by decide +kernel
theorem dX2_addStall_1 : decode cX2_addStall 1 = .ok (.getfield 49, 3) := by decide +kernel
theorem dX2_addStall_4 : decode cX2_addStall 4 = .ok (.bipush 6, 2) := by decide +kernel
theorem dX2_addStall_6 : decode cX2_addStall 6 = .ok (.if_icmp .ge 53, 3) := by decide +kernel
theorem dX2_addStall_9 : decode cX2_addStall 9 = .ok (.aload_n 0, 1) := by decide +kernel
theorem dX2_addStall_10 : decode cX2_addStall 10 = .ok (.getfield 9, 3) := by decide +kernel
theorem dX2_addStall_13 : decode cX2_addStall 13 = .ok (.aload_n 0, 1) := by decide +kernel
theorem dX2_addStall_14 : decode cX2_addStall 14 = .ok (.getfield 49, 3) := by decide +kernel
theorem dX2_addStall_17 : decode cX2_addStall 17 = .ok (.iload_n 1, 1) := by decide +kernel
theorem dX2_addStall_18 : decode cX2_addStall 18 = .ok (.iastore, 1) := by decide +kernel
theorem dX2_addStall_19 : decode cX2_addStall 19 = .ok (.aload_n 0, 1) := by decide +kernel
theorem dX2_addStall_20 : decode cX2_addStall 20 = .ok (.getfield 15, 3) := by decide +kernel
theorem dX2_addStall_23 : decode cX2_addStall 23 = .ok (.aload_n 0, 1) := by decide +kernel
theorem dX2_addStall_24 : decode cX2_addStall 24 = .ok (.getfield 49, 3) := by decide +kernel
theorem dX2_addStall_27 : decode cX2_addStall 27 = .ok (.iload_n 2, 1) := by decide +kernel
theorem dX2_addStall_28 : decode cX2_addStall 28 = .ok (.iastore, 1) := by decide +kernel
theorem dX2_addStall_29 : decode cX2_addStall 29 = .ok (.aload_n 0, 1) := by decide +kernel
theorem dX2_addStall_30 : decode cX2_addStall 30 = .ok (.getfield 18, 3) := by decide +kernel
theorem dX2_addStall_33 : decode cX2_addStall 33 = .ok (.aload_n 0, 1) := by decide +kernel
theorem dX2_addStall_34 : decode cX2_addStall 34 = .ok (.getfield 49, 3) := by decide +kernel
theorem dX2_addStall_37 : decode cX2_addStall 37 = .ok (.iload_n 3, 1) := by decide +kernel
theorem dX2_addStall_38 : decode cX2_addStall 38 = .ok (.iastore, 1) := by decide +kernel
theorem dX2_addStall_39 : decode cX2_addStall 39 = .ok (.aload_n 0, 1) := by decide +kernel
theorem dX2_addStall_40 : decode cX2_addStall 40 = .ok (.getfield 21, 3) := by decide +kernel
theorem dX2_addStall_43 : decode cX2_addStall 43 = .ok (.aload_n 0, 1) := by decide +kernel
theorem dX2_addStall_44 : decode cX2_addStall 44 = .ok (.getfield 49, 3) := by decide +kernel
theorem dX2_addStall_47 : decode cX2_addStall 47 = .ok (.iconst 0, 1) := by decide +kernel
theorem dX2_addStall_48 : decode cX2_addStall 48 = .ok (.iastore, 1) := by decide +kernel
theorem dX2_addStall_49 : decode cX2_addStall 49 = .ok (.aload_n 0, 1) := by decide +kernel
theorem dX2_addStall_50 : decode cX2_addStall 50 = .ok (.dup, 1) := by decide +kernel
theorem dX2_addStall_51 : decode cX2_addStall 51 = .ok (.getfield 49, 3) := by decide +kernel
theorem dX2_addStall_54 : decode cX2_addStall 54 = .ok (.iconst 1, 1) := by decide +kernel
theorem dX2_addStall_55 : decode cX2_addStall 55 = .ok (.iadd, 1) := by decide +kernel
theorem dX2_addStall_56 : decode cX2_addStall 56 = .ok (.putfield 49, 3) := by decide +kernel
theorem dX2_addStall_59 : decode cX2_addStall 59 = .ok (.return_, 1) := by decide +kernel
theorem dX2_canAddBuyer_0 : decode cX2_canAddBuyer 0 = .ok (.aload_n 0, 1) := by decide +kernel
theorem dX2_canAddBuyer_1 : decode cX2_canAddBuyer 1 = .ok (.getfield 52, 3) := by decide +kernel
theorem dX2_canAddBuyer_4 : decode cX2_canAddBuyer 4 = .ok (.ifCond .eq 12, 3) := by decide +kernel
theorem dX2_canAddBuyer_7 : decode cX2_canAddBuyer 7 = .ok (.aload_n 0, 1) := by decide +kernel
theorem dX2_canAddBuyer_8 : decode cX2_canAddBuyer 8 = .ok (.getfield 52, 3) := by decide +kernel
theorem dX2_canAddBuyer_11 : decode cX2_canAddBuyer 11 = .ok (.bipush 6, 2) := by decide +kernel
theorem dX2_canAddBuyer_13 : decode cX2_canAddBuyer 13 = .ok (.if_icmp .lt 16, 3) := by decide +kernel
theorem dX2_canAddBuyer_16 : decode cX2_canAddBuyer 16 = .ok (.aload_n 0, 1) := by decide +kernel
theorem dX2_canAddBuyer_17 : decode cX2_canAddBuyer 17 = .ok (.getfield 52, 3) := by decide +kernel
theorem dX2_canAddBuyer_20 : decode cX2_canAddBuyer 20 = .ok (.ifCond .ne 7, 3) := by decide +kernel
theorem dX2_canAddBuyer_23 : decode cX2_canAddBuyer 23 = .ok (.iconst 1, 1) := by decide +kernel
theorem dX2_canAddBuyer_24 : decode cX2_canAddBuyer 24 = .ok (.goto 4, 3) := by decide +kernel
theorem dX2_canAddBuyer_27 : decode cX2_canAddBuyer 27 = .ok (.iconst 0, 1) := by decide +kernel
theorem dX2_canAddBuyer_28 : decode cX2_canAddBuyer 28 = .ok (.ireturn, 1) := by decide +kernel
theorem dX2_canAddBuyer_29 : decode cX2_canAddBuyer 29 = .ok (.iload_n 2, 1) := by decide +kernel
theorem dX2_canAddBuyer_30 : decode cX2_canAddBuyer 30 = .ok (.aload_n 0, 1) := by decide +kernel
theorem dX2_canAddBuyer_31 : decode cX2_canAddBuyer 31 = .ok (.getfield 27, 3) := by decide +kernel
theorem dX2_canAddBuyer_34 : decode cX2_canAddBuyer 34 = .ok (.aload_n 0, 1) := by decide +kernel
theorem dX2_canAddBuyer_35 : decode cX2_canAddBuyer 35 = .ok (.getfield 52, 3) := by decide +kernel
theorem dX2_canAddBuyer_38 : decode cX2_canAddBuyer 38 = .ok (.iconst 1, 1) := by decide +kernel
theorem dX2_canAddBuyer_39 : decode cX2_canAddBuyer 39 = .ok (.isub, 1) := by decide +kernel
theorem dX2_canAddBuyer_40 : decode cX2_canAddBuyer 40 = .ok (.iaload, 1) := by decide +kernel
theorem dX2_canAddBuyer_41 : decode cX2_canAddBuyer 41 = .ok (.isub, 1) := by decide +kernel
theorem dX2_canAddBuyer_42 : decode cX2_canAddBuyer 42 = .ok (.istore_n 3, 1) := by decide +kernel
theorem dX2_canAddBuyer_43 : decode cX2_canAddBuyer 43 = .ok (.iload_n 3, 1) := by decide +kernel
theorem dX2_canAddBuyer_44 : decode cX2_canAddBuyer 44 = .ok (.ifCond .le 22, 3) := by decide +kernel
theorem dX2_canAddBuyer_47 : decode cX2_canAddBuyer 47 = .ok (.iload_n 3, 1) := by decide +kernel
theorem dX2_canAddBuyer_48 : decode cX2_canAddBuyer 48 = .ok (.aload_n 0, 1) := by decide +kernel
theorem dX2_canAddBuyer_49 : decode cX2_canAddBuyer 49 = .ok (.aload_n 0, 1) := by decide +kernel
theorem dX2_canAddBuyer_50 : decode cX2_canAddBuyer 50 = .ok (.getfield 52, 3) := by decide +kernel
theorem dX2_canAddBuyer_53 : decode cX2_canAddBuyer 53 = .ok (.iconst 1, 1) := by decide +kernel
theorem dX2_canAddBuyer_54 : decode cX2_canAddBuyer 54 = .ok (.isub, 1) := by decide +kernel
theorem dX2_canAddBuyer_55 : decode cX2_canAddBuyer 55 = .ok (.iload_n 1, 1) := by decide +kernel
theorem dX2_canAddBuyer_56 : decode cX2_canAddBuyer 56 = .ok (.invokevirtual 55, 3) := by decide +kernel
theorem dX2_canAddBuyer_59 : decode cX2_canAddBuyer 59 = .ok (.if_icmp .gt 7, 3) := by decide +kernel
theorem dX2_canAddBuyer_62 : decode cX2_canAddBuyer 62 = .ok (.iconst 1, 1) := by decide +kernel
theorem dX2_canAddBuyer_63 : decode cX2_canAddBuyer 63 = .ok (.goto 4, 3) := by decide +kernel
theorem dX2_canAddBuyer_66 : decode cX2_canAddBuyer 66 = .ok (.iconst 0, 1) := by decide +kernel
theorem dX2_canAddBuyer_67 : decode cX2_canAddBuyer 67 = .ok (.ireturn, 1) := by decide +kernel
theorem dX2_addBuyer_0 : decode cX2_addBuyer 0 = .ok (.aload_n 0, 1) := by decide +kernel
theorem dX2_addBuyer_1 : decode cX2_addBuyer 1 = .ok (.getfield 52, 3) := by decide +kernel
theorem dX2_addBuyer_4 : decode cX2_addBuyer 4 = .ok (.bipush 6, 2) := by decide +kernel
theorem dX2_addBuyer_6 : decode cX2_addBuyer 6 = .ok (.if_icmp .ge 85, 3) := by decide +kernel
theorem dX2_addBuyer_9 : decode cX2_addBuyer 9 = .ok (.aload_n 0, 1) := by decide +kernel
theorem dX2_addBuyer_10 : decode cX2_addBuyer 10 = .ok (.getfield 36, 3) := by decide +kernel
theorem dX2_addBuyer_13 : decode cX2_addBuyer 13 = .ok (.aload_n 0, 1) := by decide +kernel
theorem dX2_addBuyer_14 : decode cX2_addBuyer 14 = .ok (.getfield 52, 3) := by decide +kernel
theorem dX2_addBuyer_17 : decode cX2_addBuyer 17 = .ok (.aload_n 0, 1) := by decide +kernel
theorem dX2_addBuyer_18 : decode cX2_addBuyer 18 = .ok (.getfield 52, 3) := by decide +kernel
theorem dX2_addBuyer_21 : decode cX2_addBuyer 21 = .ok (.ifCond .ne 8, 3) := by decide +kernel
theorem dX2_addBuyer_24 : decode cX2_addBuyer 24 = .ok (.bipush 20, 2) := by decide +kernel
theorem dX2_addBuyer_26 : decode cX2_addBuyer 26 = .ok (.goto 14, 3) := by decide +kernel
theorem dX2_addBuyer_29 : decode cX2_addBuyer 29 = .ok (.aload_n 0, 1) := by decide +kernel
theorem dX2_addBuyer_30 : decode cX2_addBuyer 30 = .ok (.aload_n 0, 1) := by decide +kernel
theorem dX2_addBuyer_31 : decode cX2_addBuyer 31 = .ok (.getfield 52, 3) := by decide +kernel
theorem dX2_addBuyer_34 : decode cX2_addBuyer 34 = .ok (.iconst 1, 1) := by decide +kernel
theorem dX2_addBuyer_35 : decode cX2_addBuyer 35 = .ok (.isub, 1) := by decide +kernel
theorem dX2_addBuyer_36 : decode cX2_addBuyer 36 = .ok (.iload_n 1, 1) := by decide +kernel
theorem dX2_addBuyer_37 : decode cX2_addBuyer 37 = .ok (.invokevirtual 55, 3) := by decide +kernel
theorem dX2_addBuyer_40 : decode cX2_addBuyer 40 = .ok (.iastore, 1) := by decide +kernel
theorem dX2_addBuyer_41 : decode cX2_addBuyer 41 = .ok (.aload_n 0, 1) := by decide +kernel
theorem dX2_addBuyer_42 : decode cX2_addBuyer 42 = .ok (.getfield 24, 3) := by decide +kernel
theorem dX2_addBuyer_45 : decode cX2_addBuyer 45 = .ok (.aload_n 0, 1) := by decide +kernel
theorem dX2_addBuyer_46 : decode cX2_addBuyer 46 = .ok (.getfield 52, 3) := by decide +kernel
theorem dX2_addBuyer_49 : decode cX2_addBuyer 49 = .ok (.iload_n 1, 1) := by decide +kernel
theorem dX2_addBuyer_50 : decode cX2_addBuyer 50 = .ok (.iastore, 1) := by decide +kernel
theorem dX2_addBuyer_51 : decode cX2_addBuyer 51 = .ok (.aload_n 0, 1) := by decide +kernel
theorem dX2_addBuyer_52 : decode cX2_addBuyer 52 = .ok (.getfield 27, 3) := by decide +kernel
theorem dX2_addBuyer_55 : decode cX2_addBuyer 55 = .ok (.aload_n 0, 1) := by decide +kernel
theorem dX2_addBuyer_56 : decode cX2_addBuyer 56 = .ok (.getfield 52, 3) := by decide +kernel
theorem dX2_addBuyer_59 : decode cX2_addBuyer 59 = .ok (.iload_n 2, 1) := by decide +kernel
theorem dX2_addBuyer_60 : decode cX2_addBuyer 60 = .ok (.iastore, 1) := by decide +kernel
theorem dX2_addBuyer_61 : decode cX2_addBuyer 61 = .ok (.aload_n 0, 1) := by decide +kernel
theorem dX2_addBuyer_62 : decode cX2_addBuyer 62 = .ok (.getfield 30, 3) := by decide +kernel
theorem dX2_addBuyer_65 : decode cX2_addBuyer 65 = .ok (.aload_n 0, 1) := by decide +kernel
theorem dX2_addBuyer_66 : decode cX2_addBuyer 66 = .ok (.getfield 52, 3) := by decide +kernel
theorem dX2_addBuyer_69 : decode cX2_addBuyer 69 = .ok (.iload_n 3, 1) := by decide +kernel
theorem dX2_addBuyer_70 : decode cX2_addBuyer 70 = .ok (.iastore, 1) := by decide +kernel
theorem dX2_addBuyer_71 : decode cX2_addBuyer 71 = .ok (.aload_n 0, 1) := by decide +kernel
theorem dX2_addBuyer_72 : decode cX2_addBuyer 72 = .ok (.getfield 33, 3) := by decide +kernel
theorem dX2_addBuyer_75 : decode cX2_addBuyer 75 = .ok (.aload_n 0, 1) := by decide +kernel
theorem dX2_addBuyer_76 : decode cX2_addBuyer 76 = .ok (.getfield 52, 3) := by decide +kernel
theorem dX2_addBuyer_79 : decode cX2_addBuyer 79 = .ok (.iconst 0, 1) := by decide +kernel
theorem dX2_addBuyer_80 : decode cX2_addBuyer 80 = .ok (.iastore, 1) := by decide +kernel
theorem dX2_addBuyer_81 : decode cX2_addBuyer 81 = .ok (.aload_n 0, 1) := by decide +kernel
theorem dX2_addBuyer_82 : decode cX2_addBuyer 82 = .ok (.dup, 1) := by decide +kernel
theorem dX2_addBuyer_83 : decode cX2_addBuyer 83 = .ok (.getfield 52, 3) := by decide +kernel
theorem dX2_addBuyer_86 : decode cX2_addBuyer 86 = .ok (.iconst 1, 1) := by decide +kernel
theorem dX2_addBuyer_87 : decode cX2_addBuyer 87 = .ok (.iadd, 1) := by decide +kernel
theorem dX2_addBuyer_88 : decode cX2_addBuyer 88 = .ok (.putfield 52, 3) := by decide +kernel
theorem dX2_addBuyer_91 : decode cX2_addBuyer 91 = .ok (.return_, 1) := by decide +kernel
theorem dX2_slackBehind_0 : decode cX2_slackBehind 0 = .ok (.aload_n 0, 1) := by decide +kernel
theorem dX2_slackBehind_1 : decode cX2_slackBehind 1 = .ok (.getfield 24, 3) := by decide +kernel
theorem dX2_slackBehind_4 : decode cX2_slackBehind 4 = .ok (.iload_n 1, 1) := by decide +kernel
theorem dX2_slackBehind_5 : decode cX2_slackBehind 5 = .ok (.iaload, 1) := by decide +kernel
theorem dX2_slackBehind_6 : decode cX2_slackBehind 6 = .ok (.iconst 4, 1) := by decide +kernel
theorem dX2_slackBehind_7 : decode cX2_slackBehind 7 = .ok (.if_icmp .eq 8, 3) := by decide +kernel
theorem dX2_slackBehind_10 : decode cX2_slackBehind 10 = .ok (.iload_n 2, 1) := by decide +kernel
theorem dX2_slackBehind_11 : decode cX2_slackBehind 11 = .ok (.iconst 4, 1) := by decide +kernel
theorem dX2_slackBehind_12 : decode cX2_slackBehind 12 = .ok (.if_icmp .ne 8, 3) := by decide +kernel
theorem dX2_slackBehind_15 : decode cX2_slackBehind 15 = .ok (.bipush 20, 2) := by decide +kernel
theorem dX2_slackBehind_17 : decode cX2_slackBehind 17 = .ok (.goto 7, 3) := by decide +kernel
theorem dX2_slackBehind_20 : decode cX2_slackBehind 20 = .ok (.aload_n 0, 1) := by decide +kernel
theorem dX2_slackBehind_21 : decode cX2_slackBehind 21 = .ok (.getfield 42, 3) := by decide +kernel
theorem dX2_slackBehind_24 : decode cX2_slackBehind 24 = .ok (.ireturn, 1) := by decide +kernel
theorem dX2_take_0 : decode cX2_take 0 = .ok (.aload_n 0, 1) := by decide +kernel
theorem dX2_take_1 : decode cX2_take 1 = .ok (.aload_n 1, 1) := by decide +kernel
theorem dX2_take_2 : decode cX2_take 2 = .ok (.getfield 42, 3) := by decide +kernel
theorem dX2_take_5 : decode cX2_take 5 = .ok (.putfield 42, 3) := by decide +kernel
theorem dX2_take_8 : decode cX2_take 8 = .ok (.aload_n 0, 1) := by decide +kernel
theorem dX2_take_9 : decode cX2_take 9 = .ok (.aload_n 1, 1) := by decide +kernel
theorem dX2_take_10 : decode cX2_take 10 = .ok (.getfield 49, 3) := by decide +kernel
theorem dX2_take_13 : decode cX2_take 13 = .ok (.putfield 49, 3) := by decide +kernel
theorem dX2_take_16 : decode cX2_take 16 = .ok (.aload_n 0, 1) := by decide +kernel
theorem dX2_take_17 : decode cX2_take 17 = .ok (.aload_n 1, 1) := by decide +kernel
theorem dX2_take_18 : decode cX2_take 18 = .ok (.getfield 52, 3) := by decide +kernel
theorem dX2_take_21 : decode cX2_take 21 = .ok (.putfield 52, 3) := by decide +kernel
theorem dX2_take_24 : decode cX2_take 24 = .ok (.aload_n 1, 1) := by decide +kernel
theorem dX2_take_25 : decode cX2_take 25 = .ok (.getfield 9, 3) := by decide +kernel
theorem dX2_take_28 : decode cX2_take 28 = .ok (.iconst 0, 1) := by decide +kernel
theorem dX2_take_29 : decode cX2_take 29 = .ok (.aload_n 0, 1) := by decide +kernel
theorem dX2_take_30 : decode cX2_take 30 = .ok (.getfield 9, 3) := by decide +kernel
theorem dX2_take_33 : decode cX2_take 33 = .ok (.iconst 0, 1) := by decide +kernel
theorem dX2_take_34 : decode cX2_take 34 = .ok (.bipush 6, 2) := by decide +kernel
theorem dX2_take_36 : decode cX2_take 36 = .ok (.invokestatic 59, 3) := by decide +kernel
theorem dX2_take_39 : decode cX2_take 39 = .ok (.aload_n 1, 1) := by decide +kernel
theorem dX2_take_40 : decode cX2_take 40 = .ok (.getfield 15, 3) := by decide +kernel
theorem dX2_take_43 : decode cX2_take 43 = .ok (.iconst 0, 1) := by decide +kernel
theorem dX2_take_44 : decode cX2_take 44 = .ok (.aload_n 0, 1) := by decide +kernel
theorem dX2_take_45 : decode cX2_take 45 = .ok (.getfield 15, 3) := by decide +kernel
theorem dX2_take_48 : decode cX2_take 48 = .ok (.iconst 0, 1) := by decide +kernel
theorem dX2_take_49 : decode cX2_take 49 = .ok (.bipush 6, 2) := by decide +kernel
theorem dX2_take_51 : decode cX2_take 51 = .ok (.invokestatic 59, 3) := by decide +kernel
theorem dX2_take_54 : decode cX2_take 54 = .ok (.aload_n 1, 1) := by decide +kernel
theorem dX2_take_55 : decode cX2_take 55 = .ok (.getfield 18, 3) := by decide +kernel
theorem dX2_take_58 : decode cX2_take 58 = .ok (.iconst 0, 1) := by decide +kernel
theorem dX2_take_59 : decode cX2_take 59 = .ok (.aload_n 0, 1) := by decide +kernel
theorem dX2_take_60 : decode cX2_take 60 = .ok (.getfield 18, 3) := by decide +kernel
theorem dX2_take_63 : decode cX2_take 63 = .ok (.iconst 0, 1) := by decide +kernel
theorem dX2_take_64 : decode cX2_take 64 = .ok (.bipush 6, 2) := by decide +kernel
theorem dX2_take_66 : decode cX2_take 66 = .ok (.invokestatic 59, 3) := by decide +kernel
theorem dX2_take_69 : decode cX2_take 69 = .ok (.aload_n 1, 1) := by decide +kernel
theorem dX2_take_70 : decode cX2_take 70 = .ok (.getfield 24, 3) := by decide +kernel
theorem dX2_take_73 : decode cX2_take 73 = .ok (.iconst 0, 1) := by decide +kernel
theorem dX2_take_74 : decode cX2_take 74 = .ok (.aload_n 0, 1) := by decide +kernel
theorem dX2_take_75 : decode cX2_take 75 = .ok (.getfield 24, 3) := by decide +kernel
theorem dX2_take_78 : decode cX2_take 78 = .ok (.iconst 0, 1) := by decide +kernel
theorem dX2_take_79 : decode cX2_take 79 = .ok (.bipush 6, 2) := by decide +kernel
theorem dX2_take_81 : decode cX2_take 81 = .ok (.invokestatic 59, 3) := by decide +kernel
theorem dX2_take_84 : decode cX2_take 84 = .ok (.aload_n 1, 1) := by decide +kernel
theorem dX2_take_85 : decode cX2_take 85 = .ok (.getfield 36, 3) := by decide +kernel
theorem dX2_take_88 : decode cX2_take 88 = .ok (.iconst 0, 1) := by decide +kernel
theorem dX2_take_89 : decode cX2_take 89 = .ok (.aload_n 0, 1) := by decide +kernel
theorem dX2_take_90 : decode cX2_take 90 = .ok (.getfield 36, 3) := by decide +kernel
theorem dX2_take_93 : decode cX2_take 93 = .ok (.iconst 0, 1) := by decide +kernel
theorem dX2_take_94 : decode cX2_take 94 = .ok (.bipush 6, 2) := by decide +kernel
theorem dX2_take_96 : decode cX2_take 96 = .ok (.invokestatic 59, 3) := by decide +kernel
theorem dX2_take_99 : decode cX2_take 99 = .ok (.aload_n 1, 1) := by decide +kernel
theorem dX2_take_100 : decode cX2_take 100 = .ok (.getfield 39, 3) := by decide +kernel
theorem dX2_take_103 : decode cX2_take 103 = .ok (.iconst 0, 1) := by decide +kernel
theorem dX2_take_104 : decode cX2_take 104 = .ok (.aload_n 0, 1) := by decide +kernel
theorem dX2_take_105 : decode cX2_take 105 = .ok (.getfield 39, 3) := by decide +kernel
theorem dX2_take_108 : decode cX2_take 108 = .ok (.iconst 0, 1) := by decide +kernel
theorem dX2_take_109 : decode cX2_take 109 = .ok (.aload_n 0, 1) := by decide +kernel
theorem dX2_take_110 : decode cX2_take 110 = .ok (.getfield 39, 3) := by decide +kernel
theorem dX2_take_113 : decode cX2_take 113 = .ok (.arraylength, 1) := by decide +kernel
theorem dX2_take_114 : decode cX2_take 114 = .ok (.invokestatic 59, 3) := by decide +kernel
theorem dX2_take_117 : decode cX2_take 117 = .ok (.aload_n 0, 1) := by decide +kernel
theorem dX2_take_118 : decode cX2_take 118 = .ok (.aload_n 1, 1) := by decide +kernel
theorem dX2_take_119 : decode cX2_take 119 = .ok (.invokevirtual 65, 3) := by decide +kernel
theorem dX2_take_122 : decode cX2_take 122 = .ok (.return_, 1) := by decide +kernel
theorem dX2_takeWhatMoves_0 : decode cX2_takeWhatMoves 0 = .ok (.aload_n 0, 1) := by decide +kernel
theorem dX2_takeWhatMoves_1 : decode cX2_takeWhatMoves 1 = .ok (.aload_n 1, 1) := by decide +kernel
theorem dX2_takeWhatMoves_2 : decode cX2_takeWhatMoves 2 = .ok (.getfield 46, 3) := by decide +kernel
theorem dX2_takeWhatMoves_5 : decode cX2_takeWhatMoves 5 = .ok (.putfield 46, 3) := by decide +kernel
theorem dX2_takeWhatMoves_8 : decode cX2_takeWhatMoves 8 = .ok (.iconst 0, 1) := by decide +kernel
theorem dX2_takeWhatMoves_9 : decode cX2_takeWhatMoves 9 = .ok (.istore_n 2, 1) := by decide +kernel
theorem dX2_takeWhatMoves_10 : decode cX2_takeWhatMoves 10 = .ok (.iload_n 2, 1) := by decide +kernel
theorem dX2_takeWhatMoves_11 : decode cX2_takeWhatMoves 11 = .ok (.bipush 6, 2) := by decide +kernel
theorem dX2_takeWhatMoves_13 : decode cX2_takeWhatMoves 13 = .ok (.if_icmp .ge 57, 3) := by decide +kernel
theorem dX2_takeWhatMoves_16 : decode cX2_takeWhatMoves 16 = .ok (.aload_n 0, 1) := by decide +kernel
theorem dX2_takeWhatMoves_17 : decode cX2_takeWhatMoves 17 = .ok (.getfield 21, 3) := by decide +kernel
theorem dX2_takeWhatMoves_20 : decode cX2_takeWhatMoves 20 = .ok (.iload_n 2, 1) := by decide +kernel
theorem dX2_takeWhatMoves_21 : decode cX2_takeWhatMoves 21 = .ok (.aload_n 1, 1) := by decide +kernel
theorem dX2_takeWhatMoves_22 : decode cX2_takeWhatMoves 22 = .ok (.getfield 21, 3) := by decide +kernel
theorem dX2_takeWhatMoves_25 : decode cX2_takeWhatMoves 25 = .ok (.iload_n 2, 1) := by decide +kernel
theorem dX2_takeWhatMoves_26 : decode cX2_takeWhatMoves 26 = .ok (.iaload, 1) := by decide +kernel
theorem dX2_takeWhatMoves_27 : decode cX2_takeWhatMoves 27 = .ok (.iastore, 1) := by decide +kernel
theorem dX2_takeWhatMoves_28 : decode cX2_takeWhatMoves 28 = .ok (.aload_n 0, 1) := by decide +kernel
theorem dX2_takeWhatMoves_29 : decode cX2_takeWhatMoves 29 = .ok (.getfield 27, 3) := by decide +kernel
theorem dX2_takeWhatMoves_32 : decode cX2_takeWhatMoves 32 = .ok (.iload_n 2, 1) := by decide +kernel
theorem dX2_takeWhatMoves_33 : decode cX2_takeWhatMoves 33 = .ok (.aload_n 1, 1) := by decide +kernel
theorem dX2_takeWhatMoves_34 : decode cX2_takeWhatMoves 34 = .ok (.getfield 27, 3) := by decide +kernel
theorem dX2_takeWhatMoves_37 : decode cX2_takeWhatMoves 37 = .ok (.iload_n 2, 1) := by decide +kernel
theorem dX2_takeWhatMoves_38 : decode cX2_takeWhatMoves 38 = .ok (.iaload, 1) := by decide +kernel
theorem dX2_takeWhatMoves_39 : decode cX2_takeWhatMoves 39 = .ok (.iastore, 1) := by decide +kernel
theorem dX2_takeWhatMoves_40 : decode cX2_takeWhatMoves 40 = .ok (.aload_n 0, 1) := by decide +kernel
theorem dX2_takeWhatMoves_41 : decode cX2_takeWhatMoves 41 = .ok (.getfield 30, 3) := by decide +kernel
theorem dX2_takeWhatMoves_44 : decode cX2_takeWhatMoves 44 = .ok (.iload_n 2, 1) := by decide +kernel
theorem dX2_takeWhatMoves_45 : decode cX2_takeWhatMoves 45 = .ok (.aload_n 1, 1) := by decide +kernel
theorem dX2_takeWhatMoves_46 : decode cX2_takeWhatMoves 46 = .ok (.getfield 30, 3) := by decide +kernel
theorem dX2_takeWhatMoves_49 : decode cX2_takeWhatMoves 49 = .ok (.iload_n 2, 1) := by decide +kernel
theorem dX2_takeWhatMoves_50 : decode cX2_takeWhatMoves 50 = .ok (.iaload, 1) := by decide +kernel
theorem dX2_takeWhatMoves_51 : decode cX2_takeWhatMoves 51 = .ok (.iastore, 1) := by decide +kernel
theorem dX2_takeWhatMoves_52 : decode cX2_takeWhatMoves 52 = .ok (.aload_n 0, 1) := by decide +kernel
theorem dX2_takeWhatMoves_53 : decode cX2_takeWhatMoves 53 = .ok (.getfield 33, 3) := by decide +kernel
theorem dX2_takeWhatMoves_56 : decode cX2_takeWhatMoves 56 = .ok (.iload_n 2, 1) := by decide +kernel
theorem dX2_takeWhatMoves_57 : decode cX2_takeWhatMoves 57 = .ok (.aload_n 1, 1) := by decide +kernel
theorem dX2_takeWhatMoves_58 : decode cX2_takeWhatMoves 58 = .ok (.getfield 33, 3) := by decide +kernel
theorem dX2_takeWhatMoves_61 : decode cX2_takeWhatMoves 61 = .ok (.iload_n 2, 1) := by decide +kernel
theorem dX2_takeWhatMoves_62 : decode cX2_takeWhatMoves 62 = .ok (.iaload, 1) := by decide +kernel
theorem dX2_takeWhatMoves_63 : decode cX2_takeWhatMoves 63 = .ok (.iastore, 1) := by decide +kernel
theorem dX2_takeWhatMoves_64 : decode cX2_takeWhatMoves 64 = .ok (.iinc 2 1, 3) := by decide +kernel
theorem dX2_takeWhatMoves_67 : decode cX2_takeWhatMoves 67 = .ok (.goto (-57), 3) := by decide +kernel
theorem dX2_takeWhatMoves_70 : decode cX2_takeWhatMoves 70 = .ok (.return_, 1) := by decide +kernel
theorem dX2_findWays_0 : decode cX2_findWays 0 = .ok (.iconst 0, 1) := by decide +kernel
theorem dX2_findWays_1 : decode cX2_findWays 1 = .ok (.istore_n 1, 1) := by decide +kernel
theorem dX2_findWays_2 : decode cX2_findWays 2 = .ok (.iload_n 1, 1) := by decide +kernel
theorem dX2_findWays_3 : decode cX2_findWays 3 = .ok (.iconst 5, 1) := by decide +kernel
theorem dX2_findWays_4 : decode cX2_findWays 4 = .ok (.if_icmp .ge 66, 3) := by decide +kernel
theorem dX2_findWays_7 : decode cX2_findWays 7 = .ok (.iconst 0, 1) := by decide +kernel
theorem dX2_findWays_8 : decode cX2_findWays 8 = .ok (.istore_n 2, 1) := by decide +kernel
theorem dX2_findWays_9 : decode cX2_findWays 9 = .ok (.iload_n 2, 1) := by decide +kernel
theorem dX2_findWays_10 : decode cX2_findWays 10 = .ok (.bipush 20, 2) := by decide +kernel
theorem dX2_findWays_12 : decode cX2_findWays 12 = .ok (.if_icmp .ge 52, 3) := by decide +kernel
theorem dX2_findWays_15 : decode cX2_findWays 15 = .ok (.aload_n 0, 1) := by decide +kernel
theorem dX2_findWays_16 : decode cX2_findWays 16 = .ok (.getfield 39, 3) := by decide +kernel
theorem dX2_findWays_19 : decode cX2_findWays 19 = .ok (.iload_n 1, 1) := by decide +kernel
theorem dX2_findWays_20 : decode cX2_findWays 20 = .ok (.bipush 20, 2) := by decide +kernel
theorem dX2_findWays_22 : decode cX2_findWays 22 = .ok (.imul, 1) := by decide +kernel
theorem dX2_findWays_23 : decode cX2_findWays 23 = .ok (.iload_n 2, 1) := by decide +kernel
theorem dX2_findWays_24 : decode cX2_findWays 24 = .ok (.iadd, 1) := by decide +kernel
theorem dX2_findWays_25 : decode cX2_findWays 25 = .ok (.aload_n 0, 1) := by decide +kernel
theorem dX2_findWays_26 : decode cX2_findWays 26 = .ok (.iload_n 2, 1) := by decide +kernel
theorem dX2_findWays_27 : decode cX2_findWays 27 = .ok (.iconst 1, 1) := by decide +kernel
theorem dX2_findWays_28 : decode cX2_findWays 28 = .ok (.iload_n 1, 1) := by decide +kernel
theorem dX2_findWays_29 : decode cX2_findWays 29 = .ok (.ishl, 1) := by decide +kernel
theorem dX2_findWays_30 : decode cX2_findWays 30 = .ok (.invokevirtual 69, 3) := by decide +kernel
theorem dX2_findWays_33 : decode cX2_findWays 33 = .ok (.iastore, 1) := by decide +kernel
theorem dX2_findWays_34 : decode cX2_findWays 34 = .ok (.aload_n 0, 1) := by decide +kernel
theorem dX2_findWays_35 : decode cX2_findWays 35 = .ok (.getfield 39, 3) := by decide +kernel
theorem dX2_findWays_38 : decode cX2_findWays 38 = .ok (.iconst 5, 1) := by decide +kernel
theorem dX2_findWays_39 : decode cX2_findWays 39 = .ok (.iload_n 1, 1) := by decide +kernel
theorem dX2_findWays_40 : decode cX2_findWays 40 = .ok (.iadd, 1) := by decide +kernel
theorem dX2_findWays_41 : decode cX2_findWays 41 = .ok (.bipush 20, 2) := by decide +kernel
theorem dX2_findWays_43 : decode cX2_findWays 43 = .ok (.imul, 1) := by decide +kernel
theorem dX2_findWays_44 : decode cX2_findWays 44 = .ok (.iload_n 2, 1) := by decide +kernel
theorem dX2_findWays_45 : decode cX2_findWays 45 = .ok (.iadd, 1) := by decide +kernel
theorem dX2_findWays_46 : decode cX2_findWays 46 = .ok (.aload_n 0, 1) := by decide +kernel
theorem dX2_findWays_47 : decode cX2_findWays 47 = .ok (.iload_n 2, 1) := by decide +kernel
theorem dX2_findWays_48 : decode cX2_findWays 48 = .ok (.iconst 1, 1) := by decide +kernel
theorem dX2_findWays_49 : decode cX2_findWays 49 = .ok (.iload_n 1, 1) := by decide +kernel
theorem dX2_findWays_50 : decode cX2_findWays 50 = .ok (.ishl, 1) := by decide +kernel
theorem dX2_findWays_51 : decode cX2_findWays 51 = .ok (.bipush 8, 2) := by decide +kernel
theorem dX2_findWays_53 : decode cX2_findWays 53 = .ok (.ior, 1) := by decide +kernel
theorem dX2_findWays_54 : decode cX2_findWays 54 = .ok (.invokevirtual 69, 3) := by decide +kernel
theorem dX2_findWays_57 : decode cX2_findWays 57 = .ok (.iastore, 1) := by decide +kernel
theorem dX2_findWays_58 : decode cX2_findWays 58 = .ok (.iinc 2 1, 3) := by decide +kernel
theorem dX2_findWays_61 : decode cX2_findWays 61 = .ok (.goto (-52), 3) := by decide +kernel
theorem dX2_findWays_64 : decode cX2_findWays 64 = .ok (.iinc 1 1, 3) := by decide +kernel
theorem dX2_findWays_67 : decode cX2_findWays 67 = .ok (.goto (-65), 3) := by decide +kernel
theorem dX2_findWays_70 : decode cX2_findWays 70 = .ok (.return_, 1) := by decide +kernel
theorem dX2_wayToNearest_0 : decode cX2_wayToNearest 0 = .ok (.aload_n 0, 1) := by decide +kernel
theorem dX2_wayToNearest_1 : decode cX2_wayToNearest 1 = .ok (.iload_n 1, 1) := by decide +kernel
theorem dX2_wayToNearest_2 : decode cX2_wayToNearest 2 = .ok (.iload_n 2, 1) := by decide +kernel
theorem dX2_wayToNearest_3 : decode cX2_wayToNearest 3 = .ok (.invokevirtual 72, 3) := by decide +kernel
theorem dX2_wayToNearest_6 : decode cX2_wayToNearest 6 = .ok (.istore_n 3, 1) := by decide +kernel
theorem dX2_wayToNearest_7 : decode cX2_wayToNearest 7 = .ok (.iload_n 3, 1) := by decide +kernel
theorem dX2_wayToNearest_8 : decode cX2_wayToNearest 8 = .ok (.bipush (-9), 2) := by decide +kernel
theorem dX2_wayToNearest_10 : decode cX2_wayToNearest 10 = .ok (.if_icmp .eq 13, 3) := by decide +kernel
theorem dX2_wayToNearest_13 : decode cX2_wayToNearest 13 = .ok (.aload_n 0, 1) := by decide +kernel
theorem dX2_wayToNearest_14 : decode cX2_wayToNearest 14 = .ok (.getfield 9, 3) := by decide +kernel
theorem dX2_wayToNearest_17 : decode cX2_wayToNearest 17 = .ok (.iload_n 3, 1) := by decide +kernel
theorem dX2_wayToNearest_18 : decode cX2_wayToNearest 18 = .ok (.iaload, 1) := by decide +kernel
theorem dX2_wayToNearest_19 : decode cX2_wayToNearest 19 = .ok (.iload_n 1, 1) := by decide +kernel
theorem dX2_wayToNearest_20 : decode cX2_wayToNearest 20 = .ok (.if_icmp .ne 5, 3) := by decide +kernel
theorem dX2_wayToNearest_23 : decode cX2_wayToNearest 23 = .ok (.iconst 0, 1) := by decide +kernel
theorem dX2_wayToNearest_24 : decode cX2_wayToNearest 24 = .ok (.ireturn, 1) := by decide +kernel
theorem dX2_wayToNearest_25 : decode cX2_wayToNearest 25 = .ok (.aload_n 0, 1) := by decide +kernel
theorem dX2_wayToNearest_26 : decode cX2_wayToNearest 26 = .ok (.getfield 9, 3) := by decide +kernel
theorem dX2_wayToNearest_29 : decode cX2_wayToNearest 29 = .ok (.iload_n 3, 1) := by decide +kernel
theorem dX2_wayToNearest_30 : decode cX2_wayToNearest 30 = .ok (.iaload, 1) := by decide +kernel
theorem dX2_wayToNearest_31 : decode cX2_wayToNearest 31 = .ok (.iload_n 1, 1) := by decide +kernel
theorem dX2_wayToNearest_32 : decode cX2_wayToNearest 32 = .ok (.if_icmp .ge 7, 3) := by decide +kernel
theorem dX2_wayToNearest_35 : decode cX2_wayToNearest 35 = .ok (.iconst (-1), 1) := by decide +kernel
theorem dX2_wayToNearest_36 : decode cX2_wayToNearest 36 = .ok (.goto 4, 3) := by decide +kernel
theorem dX2_wayToNearest_39 : decode cX2_wayToNearest 39 = .ok (.iconst 1, 1) := by decide +kernel
theorem dX2_wayToNearest_40 : decode cX2_wayToNearest 40 = .ok (.ireturn, 1) := by decide +kernel
theorem dX2_nearestStall_0 : decode cX2_nearestStall 0 = .ok (.bipush (-9), 2) := by decide +kernel
theorem dX2_nearestStall_2 : decode cX2_nearestStall 2 = .ok (.istore_n 3, 1) := by decide +kernel
theorem dX2_nearestStall_3 : decode cX2_nearestStall 3 = .ok (.iconst 0, 1) := by decide +kernel
theorem dX2_nearestStall_4 : decode cX2_nearestStall 4 = .ok (.istore 4, 2) := by decide +kernel
theorem dX2_nearestStall_6 : decode cX2_nearestStall 6 = .ok (.iload 4, 2) := by decide +kernel
theorem dX2_nearestStall_8 : decode cX2_nearestStall 8 = .ok (.aload_n 0, 1) := by decide +kernel
theorem dX2_nearestStall_9 : decode cX2_nearestStall 9 = .ok (.getfield 49, 3) := by decide +kernel
theorem dX2_nearestStall_12 : decode cX2_nearestStall 12 = .ok (.if_icmp .ge 43, 3) := by decide +kernel
theorem dX2_nearestStall_15 : decode cX2_nearestStall 15 = .ok (.iload_n 2, 1) := by decide +kernel
theorem dX2_nearestStall_16 : decode cX2_nearestStall 16 = .ok (.aload_n 0, 1) := by decide +kernel
theorem dX2_nearestStall_17 : decode cX2_nearestStall 17 = .ok (.getfield 15, 3) := by decide +kernel
theorem dX2_nearestStall_20 : decode cX2_nearestStall 20 = .ok (.iload 4, 2) := by decide +kernel
theorem dX2_nearestStall_22 : decode cX2_nearestStall 22 = .ok (.iaload, 1) := by decide +kernel
theorem dX2_nearestStall_23 : decode cX2_nearestStall 23 = .ok (.invokestatic 75, 3) := by decide +kernel
theorem dX2_nearestStall_26 : decode cX2_nearestStall 26 = .ok (.ifCond .eq 23, 3) := by decide +kernel
theorem dX2_nearestStall_29 : decode cX2_nearestStall 29 = .ok (.iload_n 3, 1) := by decide +kernel
theorem dX2_nearestStall_30 : decode cX2_nearestStall 30 = .ok (.bipush (-9), 2) := by decide +kernel
theorem dX2_nearestStall_32 : decode cX2_nearestStall 32 = .ok (.if_icmp .eq 14, 3) := by decide +kernel
theorem dX2_nearestStall_35 : decode cX2_nearestStall 35 = .ok (.aload_n 0, 1) := by decide +kernel
theorem dX2_nearestStall_36 : decode cX2_nearestStall 36 = .ok (.iload_n 1, 1) := by decide +kernel
theorem dX2_nearestStall_37 : decode cX2_nearestStall 37 = .ok (.iload 4, 2) := by decide +kernel
theorem dX2_nearestStall_39 : decode cX2_nearestStall 39 = .ok (.iload_n 3, 1) := by decide +kernel
theorem dX2_nearestStall_40 : decode cX2_nearestStall 40 = .ok (.invokevirtual 79, 3) := by decide +kernel
theorem dX2_nearestStall_43 : decode cX2_nearestStall 43 = .ok (.ifCond .eq 6, 3) := by decide +kernel
theorem dX2_nearestStall_46 : decode cX2_nearestStall 46 = .ok (.iload 4, 2) := by decide +kernel
theorem dX2_nearestStall_48 : decode cX2_nearestStall 48 = .ok (.istore_n 3, 1) := by decide +kernel
theorem dX2_nearestStall_49 : decode cX2_nearestStall 49 = .ok (.iinc 4 1, 3) := by decide +kernel
theorem dX2_nearestStall_52 : decode cX2_nearestStall 52 = .ok (.goto (-46), 3) := by decide +kernel
theorem dX2_nearestStall_55 : decode cX2_nearestStall 55 = .ok (.iload_n 3, 1) := by decide +kernel
theorem dX2_nearestStall_56 : decode cX2_nearestStall 56 = .ok (.ireturn, 1) := by decide +kernel
theorem dX2_isNearer_0 : decode cX2_isNearer 0 = .ok (.aload_n 0, 1) := by decide +kernel
theorem dX2_isNearer_1 : decode cX2_isNearer 1 = .ok (.getfield 9, 3) := by decide +kernel
theorem dX2_isNearer_4 : decode cX2_isNearer 4 = .ok (.iload_n 2, 1) := by decide +kernel
theorem dX2_isNearer_5 : decode cX2_isNearer 5 = .ok (.iaload, 1) := by decide +kernel
theorem dX2_isNearer_6 : decode cX2_isNearer 6 = .ok (.iload_n 1, 1) := by decide +kernel
theorem dX2_isNearer_7 : decode cX2_isNearer 7 = .ok (.isub, 1) := by decide +kernel
theorem dX2_isNearer_8 : decode cX2_isNearer 8 = .ok (.invokestatic 83, 3) := by decide +kernel
theorem dX2_isNearer_11 : decode cX2_isNearer 11 = .ok (.istore 4, 2) := by decide +kernel
theorem dX2_isNearer_13 : decode cX2_isNearer 13 = .ok (.aload_n 0, 1) := by decide +kernel
theorem dX2_isNearer_14 : decode cX2_isNearer 14 = .ok (.getfield 9, 3) := by decide +kernel
theorem dX2_isNearer_17 : decode cX2_isNearer 17 = .ok (.iload_n 3, 1) := by decide +kernel
theorem dX2_isNearer_18 : decode cX2_isNearer 18 = .ok (.iaload, 1) := by decide +kernel
theorem dX2_isNearer_19 : decode cX2_isNearer 19 = .ok (.iload_n 1, 1) := by decide +kernel
theorem dX2_isNearer_20 : decode cX2_isNearer 20 = .ok (.isub, 1) := by decide +kernel
theorem dX2_isNearer_21 : decode cX2_isNearer 21 = .ok (.invokestatic 83, 3) := by decide +kernel
theorem dX2_isNearer_24 : decode cX2_isNearer 24 = .ok (.istore 5, 2) := by decide +kernel
theorem dX2_isNearer_26 : decode cX2_isNearer 26 = .ok (.iload 4, 2) := by decide +kernel
theorem dX2_isNearer_28 : decode cX2_isNearer 28 = .ok (.iload 5, 2) := by decide +kernel
theorem dX2_isNearer_30 : decode cX2_isNearer 30 = .ok (.if_icmp .lt 25, 3) := by decide +kernel
theorem dX2_isNearer_33 : decode cX2_isNearer 33 = .ok (.iload 4, 2) := by decide +kernel
theorem dX2_isNearer_35 : decode cX2_isNearer 35 = .ok (.iload 5, 2) := by decide +kernel
theorem dX2_isNearer_37 : decode cX2_isNearer 37 = .ok (.if_icmp .ne 22, 3) := by decide +kernel
theorem dX2_isNearer_40 : decode cX2_isNearer 40 = .ok (.aload_n 0, 1) := by decide +kernel
theorem dX2_isNearer_41 : decode cX2_isNearer 41 = .ok (.getfield 9, 3) := by decide +kernel
theorem dX2_isNearer_44 : decode cX2_isNearer 44 = .ok (.iload_n 2, 1) := by decide +kernel
theorem dX2_isNearer_45 : decode cX2_isNearer 45 = .ok (.iaload, 1) := by decide +kernel
theorem dX2_isNearer_46 : decode cX2_isNearer 46 = .ok (.aload_n 0, 1) := by decide +kernel
theorem dX2_isNearer_47 : decode cX2_isNearer 47 = .ok (.getfield 9, 3) := by decide +kernel
theorem dX2_isNearer_50 : decode cX2_isNearer 50 = .ok (.iload_n 3, 1) := by decide +kernel
theorem dX2_isNearer_51 : decode cX2_isNearer 51 = .ok (.iaload, 1) := by decide +kernel
theorem dX2_isNearer_52 : decode cX2_isNearer 52 = .ok (.if_icmp .ge 7, 3) := by decide +kernel
theorem dX2_isNearer_55 : decode cX2_isNearer 55 = .ok (.iconst 1, 1) := by decide +kernel
theorem dX2_isNearer_56 : decode cX2_isNearer 56 = .ok (.goto 4, 3) := by decide +kernel
theorem dX2_isNearer_59 : decode cX2_isNearer 59 = .ok (.iconst 0, 1) := by decide +kernel
theorem dX2_isNearer_60 : decode cX2_isNearer 60 = .ok (.ireturn, 1) := by decide +kernel
theorem dX2_farToNearest_0 : decode cX2_farToNearest 0 = .ok (.aload_n 0, 1) := by decide +kernel
theorem dX2_farToNearest_1 : decode cX2_farToNearest 1 = .ok (.iload_n 1, 1) := by decide +kernel
theorem dX2_farToNearest_2 : decode cX2_farToNearest 2 = .ok (.iload_n 2, 1) := by decide +kernel
theorem dX2_farToNearest_3 : decode cX2_farToNearest 3 = .ok (.invokevirtual 72, 3) := by decide +kernel
theorem dX2_farToNearest_6 : decode cX2_farToNearest 6 = .ok (.istore_n 3, 1) := by decide +kernel
theorem dX2_farToNearest_7 : decode cX2_farToNearest 7 = .ok (.iload_n 3, 1) := by decide +kernel
theorem dX2_farToNearest_8 : decode cX2_farToNearest 8 = .ok (.bipush (-9), 2) := by decide +kernel
theorem dX2_farToNearest_10 : decode cX2_farToNearest 10 = .ok (.if_icmp .ne 8, 3) := by decide +kernel
theorem dX2_farToNearest_13 : decode cX2_farToNearest 13 = .ok (.bipush (-9), 2) := by decide +kernel
theorem dX2_farToNearest_15 : decode cX2_farToNearest 15 = .ok (.goto 14, 3) := by decide +kernel
theorem dX2_farToNearest_18 : decode cX2_farToNearest 18 = .ok (.aload_n 0, 1) := by decide +kernel
theorem dX2_farToNearest_19 : decode cX2_farToNearest 19 = .ok (.getfield 9, 3) := by decide +kernel
theorem dX2_farToNearest_22 : decode cX2_farToNearest 22 = .ok (.iload_n 3, 1) := by decide +kernel
theorem dX2_farToNearest_23 : decode cX2_farToNearest 23 = .ok (.iaload, 1) := by decide +kernel
theorem dX2_farToNearest_24 : decode cX2_farToNearest 24 = .ok (.iload_n 1, 1) := by decide +kernel
theorem dX2_farToNearest_25 : decode cX2_farToNearest 25 = .ok (.isub, 1) := by decide +kernel
theorem dX2_farToNearest_26 : decode cX2_farToNearest 26 = .ok (.invokestatic 83, 3) := by decide +kernel
theorem dX2_farToNearest_29 : decode cX2_farToNearest 29 = .ok (.ireturn, 1) := by decide +kernel
theorem dX2_wayOf_0 : decode cX2_wayOf 0 = .ok (.aload_n 0, 1) := by decide +kernel
theorem dX2_wayOf_1 : decode cX2_wayOf 1 = .ok (.getfield 24, 3) := by decide +kernel
theorem dX2_wayOf_4 : decode cX2_wayOf 4 = .ok (.iload_n 1, 1) := by decide +kernel
theorem dX2_wayOf_5 : decode cX2_wayOf 5 = .ok (.iaload, 1) := by decide +kernel
theorem dX2_wayOf_6 : decode cX2_wayOf 6 = .ok (.istore_n 2, 1) := by decide +kernel
theorem dX2_wayOf_7 : decode cX2_wayOf 7 = .ok (.iload_n 2, 1) := by decide +kernel
theorem dX2_wayOf_8 : decode cX2_wayOf 8 = .ok (.iconst 2, 1) := by decide +kernel
theorem dX2_wayOf_9 : decode cX2_wayOf 9 = .ok (.if_icmp .eq 8, 3) := by decide +kernel
theorem dX2_wayOf_12 : decode cX2_wayOf 12 = .ok (.iload_n 2, 1) := by decide +kernel
theorem dX2_wayOf_13 : decode cX2_wayOf 13 = .ok (.iconst 4, 1) := by decide +kernel
theorem dX2_wayOf_14 : decode cX2_wayOf 14 = .ok (.if_icmp .ne 5, 3) := by decide +kernel
theorem dX2_wayOf_17 : decode cX2_wayOf 17 = .ok (.iconst 0, 1) := by decide +kernel
theorem dX2_wayOf_18 : decode cX2_wayOf 18 = .ok (.ireturn, 1) := by decide +kernel
theorem dX2_wayOf_19 : decode cX2_wayOf 19 = .ok (.iload_n 2, 1) := by decide +kernel
theorem dX2_wayOf_20 : decode cX2_wayOf 20 = .ok (.iconst 3, 1) := by decide +kernel
theorem dX2_wayOf_21 : decode cX2_wayOf 21 = .ok (.if_icmp .ne 7, 3) := by decide +kernel
theorem dX2_wayOf_24 : decode cX2_wayOf 24 = .ok (.iconst 5, 1) := by decide +kernel
theorem dX2_wayOf_25 : decode cX2_wayOf 25 = .ok (.goto 4, 3) := by decide +kernel
theorem dX2_wayOf_28 : decode cX2_wayOf 28 = .ok (.iconst 0, 1) := by decide +kernel
theorem dX2_wayOf_29 : decode cX2_wayOf 29 = .ok (.istore_n 3, 1) := by decide +kernel
theorem dX2_wayOf_30 : decode cX2_wayOf 30 = .ok (.aload_n 0, 1) := by decide +kernel
theorem dX2_wayOf_31 : decode cX2_wayOf 31 = .ok (.getfield 39, 3) := by decide +kernel
theorem dX2_wayOf_34 : decode cX2_wayOf 34 = .ok (.iload_n 3, 1) := by decide +kernel
theorem dX2_wayOf_35 : decode cX2_wayOf 35 = .ok (.aload_n 0, 1) := by decide +kernel
theorem dX2_wayOf_36 : decode cX2_wayOf 36 = .ok (.getfield 30, 3) := by decide +kernel
theorem dX2_wayOf_39 : decode cX2_wayOf 39 = .ok (.iload_n 1, 1) := by decide +kernel
theorem dX2_wayOf_40 : decode cX2_wayOf 40 = .ok (.iaload, 1) := by decide +kernel
theorem dX2_wayOf_41 : decode cX2_wayOf 41 = .ok (.iadd, 1) := by decide +kernel
theorem dX2_wayOf_42 : decode cX2_wayOf 42 = .ok (.bipush 20, 2) := by decide +kernel
theorem dX2_wayOf_44 : decode cX2_wayOf 44 = .ok (.imul, 1) := by decide +kernel
theorem dX2_wayOf_45 : decode cX2_wayOf 45 = .ok (.aload_n 0, 1) := by decide +kernel
theorem dX2_wayOf_46 : decode cX2_wayOf 46 = .ok (.getfield 27, 3) := by decide +kernel
theorem dX2_wayOf_49 : decode cX2_wayOf 49 = .ok (.iload_n 1, 1) := by decide +kernel
theorem dX2_wayOf_50 : decode cX2_wayOf 50 = .ok (.iaload, 1) := by decide +kernel
theorem dX2_wayOf_51 : decode cX2_wayOf 51 = .ok (.iadd, 1) := by decide +kernel
theorem dX2_wayOf_52 : decode cX2_wayOf 52 = .ok (.iaload, 1) := by decide +kernel
theorem dX2_wayOf_53 : decode cX2_wayOf 53 = .ok (.ireturn, 1) := by decide +kernel
theorem dX2_isOfKind_0 : decode cX2_isOfKind 0 = .ok (.aload_n 0, 1) := by decide +kernel
theorem dX2_isOfKind_1 : decode cX2_isOfKind 1 = .ok (.getfield 24, 3) := by decide +kernel
theorem dX2_isOfKind_4 : decode cX2_isOfKind 4 = .ok (.iload_n 1, 1) := by decide +kernel
theorem dX2_isOfKind_5 : decode cX2_isOfKind 5 = .ok (.iaload, 1) := by decide +kernel
theorem dX2_isOfKind_6 : decode cX2_isOfKind 6 = .ok (.iload_n 2, 1) := by decide +kernel
theorem dX2_isOfKind_7 : decode cX2_isOfKind 7 = .ok (.if_icmp .eq 33, 3) := by decide +kernel
theorem dX2_isOfKind_10 : decode cX2_isOfKind 10 = .ok (.iload_n 2, 1) := by decide +kernel
theorem dX2_isOfKind_11 : decode cX2_isOfKind 11 = .ok (.iconst 1, 1) := by decide +kernel
theorem dX2_isOfKind_12 : decode cX2_isOfKind 12 = .ok (.if_icmp .ne 13, 3) := by decide +kernel
theorem dX2_isOfKind_15 : decode cX2_isOfKind 15 = .ok (.aload_n 0, 1) := by decide +kernel
theorem dX2_isOfKind_16 : decode cX2_isOfKind 16 = .ok (.getfield 24, 3) := by decide +kernel
theorem dX2_isOfKind_19 : decode cX2_isOfKind 19 = .ok (.iload_n 1, 1) := by decide +kernel
theorem dX2_isOfKind_20 : decode cX2_isOfKind 20 = .ok (.iaload, 1) := by decide +kernel
theorem dX2_isOfKind_21 : decode cX2_isOfKind 21 = .ok (.iconst 5, 1) := by decide +kernel
theorem dX2_isOfKind_22 : decode cX2_isOfKind 22 = .ok (.if_icmp .eq 18, 3) := by decide +kernel
theorem dX2_isOfKind_25 : decode cX2_isOfKind 25 = .ok (.iload_n 2, 1) := by decide +kernel
theorem dX2_isOfKind_26 : decode cX2_isOfKind 26 = .ok (.iconst 2, 1) := by decide +kernel
theorem dX2_isOfKind_27 : decode cX2_isOfKind 27 = .ok (.if_icmp .ne 17, 3) := by decide +kernel
theorem dX2_isOfKind_30 : decode cX2_isOfKind 30 = .ok (.aload_n 0, 1) := by decide +kernel
theorem dX2_isOfKind_31 : decode cX2_isOfKind 31 = .ok (.getfield 24, 3) := by decide +kernel
theorem dX2_isOfKind_34 : decode cX2_isOfKind 34 = .ok (.iload_n 1, 1) := by decide +kernel
theorem dX2_isOfKind_35 : decode cX2_isOfKind 35 = .ok (.iaload, 1) := by decide +kernel
theorem dX2_isOfKind_36 : decode cX2_isOfKind 36 = .ok (.iconst 4, 1) := by decide +kernel
theorem dX2_isOfKind_37 : decode cX2_isOfKind 37 = .ok (.if_icmp .ne 7, 3) := by decide +kernel
theorem dX2_isOfKind_40 : decode cX2_isOfKind 40 = .ok (.iconst 1, 1) := by decide +kernel
theorem dX2_isOfKind_41 : decode cX2_isOfKind 41 = .ok (.goto 4, 3) := by decide +kernel
theorem dX2_isOfKind_44 : decode cX2_isOfKind 44 = .ok (.iconst 0, 1) := by decide +kernel
theorem dX2_isOfKind_45 : decode cX2_isOfKind 45 = .ok (.ireturn, 1) := by decide +kernel
theorem dX2_isRich_0 : decode cX2_isRich 0 = .ok (.aload_n 0, 1) := by decide +kernel
theorem dX2_isRich_1 : decode cX2_isRich 1 = .ok (.getfield 24, 3) := by decide +kernel
theorem dX2_isRich_4 : decode cX2_isRich 4 = .ok (.iload_n 1, 1) := by decide +kernel
theorem dX2_isRich_5 : decode cX2_isRich 5 = .ok (.iaload, 1) := by decide +kernel
theorem dX2_isRich_6 : decode cX2_isRich 6 = .ok (.iconst 1, 1) := by decide +kernel
theorem dX2_isRich_7 : decode cX2_isRich 7 = .ok (.if_icmp .eq 13, 3) := by decide +kernel
theorem dX2_isRich_10 : decode cX2_isRich 10 = .ok (.aload_n 0, 1) := by decide +kernel
theorem dX2_isRich_11 : decode cX2_isRich 11 = .ok (.getfield 24, 3) := by decide +kernel
theorem dX2_isRich_14 : decode cX2_isRich 14 = .ok (.iload_n 1, 1) := by decide +kernel
theorem dX2_isRich_15 : decode cX2_isRich 15 = .ok (.iaload, 1) := by decide +kernel
theorem dX2_isRich_16 : decode cX2_isRich 16 = .ok (.iconst 5, 1) := by decide +kernel
theorem dX2_isRich_17 : decode cX2_isRich 17 = .ok (.if_icmp .ne 7, 3) := by decide +kernel
theorem dX2_isRich_20 : decode cX2_isRich 20 = .ok (.iconst 1, 1) := by decide +kernel
theorem dX2_isRich_21 : decode cX2_isRich 21 = .ok (.goto 4, 3) := by decide +kernel
theorem dX2_isRich_24 : decode cX2_isRich 24 = .ok (.iconst 0, 1) := by decide +kernel
theorem dX2_isRich_25 : decode cX2_isRich 25 = .ok (.ireturn, 1) := by decide +kernel
theorem dX2_passMinute_0 : decode cX2_passMinute 0 = .ok (.iconst 0, 1) := by decide +kernel
theorem dX2_passMinute_1 : decode cX2_passMinute 1 = .ok (.istore_n 2, 1) := by decide +kernel
theorem dX2_passMinute_2 : decode cX2_passMinute 2 = .ok (.iload_n 2, 1) := by decide +kernel
theorem dX2_passMinute_3 : decode cX2_passMinute 3 = .ok (.aload_n 0, 1) := by decide +kernel
theorem dX2_passMinute_4 : decode cX2_passMinute 4 = .ok (.getfield 52, 3) := by decide +kernel
theorem dX2_passMinute_7 : decode cX2_passMinute 7 = .ok (.if_icmp .ge 47, 3) := by decide +kernel
theorem dX2_passMinute_10 : decode cX2_passMinute 10 = .ok (.aload_n 0, 1) := by decide +kernel
theorem dX2_passMinute_11 : decode cX2_passMinute 11 = .ok (.iload_n 2, 1) := by decide +kernel
theorem dX2_passMinute_12 : decode cX2_passMinute 12 = .ok (.invokevirtual 89, 3) := by decide +kernel
theorem dX2_passMinute_15 : decode cX2_passMinute 15 = .ok (.ifCond .eq 33, 3) := by decide +kernel
theorem dX2_passMinute_18 : decode cX2_passMinute 18 = .ok (.aload_n 0, 1) := by decide +kernel
theorem dX2_passMinute_19 : decode cX2_passMinute 19 = .ok (.iload_n 2, 1) := by decide +kernel
theorem dX2_passMinute_20 : decode cX2_passMinute 20 = .ok (.aload_n 0, 1) := by decide +kernel
theorem dX2_passMinute_21 : decode cX2_passMinute 21 = .ok (.iload_n 2, 1) := by decide +kernel
theorem dX2_passMinute_22 : decode cX2_passMinute 22 = .ok (.invokevirtual 93, 3) := by decide +kernel
theorem dX2_passMinute_25 : decode cX2_passMinute 25 = .ok (.invokevirtual 96, 3) := by decide +kernel
theorem dX2_passMinute_28 : decode cX2_passMinute 28 = .ok (.aload_n 0, 1) := by decide +kernel
theorem dX2_passMinute_29 : decode cX2_passMinute 29 = .ok (.getfield 24, 3) := by decide +kernel
theorem dX2_passMinute_32 : decode cX2_passMinute 32 = .ok (.iload_n 2, 1) := by decide +kernel
theorem dX2_passMinute_33 : decode cX2_passMinute 33 = .ok (.iaload, 1) := by decide +kernel
theorem dX2_passMinute_34 : decode cX2_passMinute 34 = .ok (.iconst 5, 1) := by decide +kernel
theorem dX2_passMinute_35 : decode cX2_passMinute 35 = .ok (.if_icmp .ne 13, 3) := by decide +kernel
theorem dX2_passMinute_38 : decode cX2_passMinute 38 = .ok (.aload_n 0, 1) := by decide +kernel
theorem dX2_passMinute_39 : decode cX2_passMinute 39 = .ok (.iload_n 2, 1) := by decide +kernel
theorem dX2_passMinute_40 : decode cX2_passMinute 40 = .ok (.aload_n 0, 1) := by decide +kernel
theorem dX2_passMinute_41 : decode cX2_passMinute 41 = .ok (.iload_n 2, 1) := by decide +kernel
theorem dX2_passMinute_42 : decode cX2_passMinute 42 = .ok (.invokevirtual 93, 3) := by decide +kernel
theorem dX2_passMinute_45 : decode cX2_passMinute 45 = .ok (.invokevirtual 96, 3) := by decide +kernel
theorem dX2_passMinute_48 : decode cX2_passMinute 48 = .ok (.iinc 2 1, 3) := by decide +kernel
theorem dX2_passMinute_51 : decode cX2_passMinute 51 = .ok (.goto (-49), 3) := by decide +kernel
theorem dX2_passMinute_54 : decode cX2_passMinute 54 = .ok (.iconst 0, 1) := by decide +kernel
theorem dX2_passMinute_55 : decode cX2_passMinute 55 = .ok (.istore_n 2, 1) := by decide +kernel
theorem dX2_passMinute_56 : decode cX2_passMinute 56 = .ok (.iload_n 2, 1) := by decide +kernel
theorem dX2_passMinute_57 : decode cX2_passMinute 57 = .ok (.aload_n 0, 1) := by decide +kernel
theorem dX2_passMinute_58 : decode cX2_passMinute 58 = .ok (.getfield 52, 3) := by decide +kernel
theorem dX2_passMinute_61 : decode cX2_passMinute 61 = .ok (.if_icmp .ge 27, 3) := by decide +kernel
theorem dX2_passMinute_64 : decode cX2_passMinute 64 = .ok (.aload_n 0, 1) := by decide +kernel
theorem dX2_passMinute_65 : decode cX2_passMinute 65 = .ok (.iload_n 2, 1) := by decide +kernel
theorem dX2_passMinute_66 : decode cX2_passMinute 66 = .ok (.invokevirtual 89, 3) := by decide +kernel
theorem dX2_passMinute_69 : decode cX2_passMinute 69 = .ok (.ifCond .ne 13, 3) := by decide +kernel
theorem dX2_passMinute_72 : decode cX2_passMinute 72 = .ok (.aload_n 0, 1) := by decide +kernel
theorem dX2_passMinute_73 : decode cX2_passMinute 73 = .ok (.iload_n 2, 1) := by decide +kernel
theorem dX2_passMinute_74 : decode cX2_passMinute 74 = .ok (.aload_n 0, 1) := by decide +kernel
theorem dX2_passMinute_75 : decode cX2_passMinute 75 = .ok (.iload_n 2, 1) := by decide +kernel
theorem dX2_passMinute_76 : decode cX2_passMinute 76 = .ok (.invokevirtual 93, 3) := by decide +kernel
theorem dX2_passMinute_79 : decode cX2_passMinute 79 = .ok (.invokevirtual 100, 3) := by decide +kernel
theorem dX2_passMinute_82 : decode cX2_passMinute 82 = .ok (.iinc 2 1, 3) := by decide +kernel
theorem dX2_passMinute_85 : decode cX2_passMinute 85 = .ok (.goto (-29), 3) := by decide +kernel
theorem dX2_passMinute_88 : decode cX2_passMinute 88 = .ok (.aload_n 0, 1) := by decide +kernel
theorem dX2_passMinute_89 : decode cX2_passMinute 89 = .ok (.dup, 1) := by decide +kernel
theorem dX2_passMinute_90 : decode cX2_passMinute 90 = .ok (.getfield 46, 3) := by decide +kernel
theorem dX2_passMinute_93 : decode cX2_passMinute 93 = .ok (.iconst 1, 1) := by decide +kernel
theorem dX2_passMinute_94 : decode cX2_passMinute 94 = .ok (.iadd, 1) := by decide +kernel
theorem dX2_passMinute_95 : decode cX2_passMinute 95 = .ok (.putfield 46, 3) := by decide +kernel
theorem dX2_passMinute_98 : decode cX2_passMinute 98 = .ok (.aload_n 0, 1) := by decide +kernel
theorem dX2_passMinute_99 : decode cX2_passMinute 99 = .ok (.aload_n 0, 1) := by decide +kernel
theorem dX2_passMinute_100 : decode cX2_passMinute 100 = .ok (.invokevirtual 103, 3) := by decide +kernel
theorem dX2_passMinute_103 : decode cX2_passMinute 103 = .ok (.iload_n 1, 1) := by decide +kernel
theorem dX2_passMinute_104 : decode cX2_passMinute 104 = .ok (.iadd, 1) := by decide +kernel
theorem dX2_passMinute_105 : decode cX2_passMinute 105 = .ok (.invokevirtual 107, 3) := by decide +kernel
theorem dX2_passMinute_108 : decode cX2_passMinute 108 = .ok (.ireturn, 1) := by decide +kernel
theorem dX2_sun_0 : decode cX2_sun 0 = .ok (.aload_n 0, 1) := by decide +kernel
theorem dX2_sun_1 : decode cX2_sun 1 = .ok (.getfield 46, 3) := by decide +kernel
theorem dX2_sun_4 : decode cX2_sun 4 = .ok (.bipush 7, 2) := by decide +kernel
theorem dX2_sun_6 : decode cX2_sun 6 = .ok (.irem, 1) := by decide +kernel
theorem dX2_sun_7 : decode cX2_sun 7 = .ok (.iconst 3, 1) := by decide +kernel
theorem dX2_sun_8 : decode cX2_sun 8 = .ok (.isub, 1) := by decide +kernel
theorem dX2_sun_9 : decode cX2_sun 9 = .ok (.ireturn, 1) := by decide +kernel
theorem dX2_holds_0 : decode cX2_holds 0 = .ok (.aload_n 0, 1) := by decide +kernel
theorem dX2_holds_1 : decode cX2_holds 1 = .ok (.getfield 27, 3) := by decide +kernel
theorem dX2_holds_4 : decode cX2_holds 4 = .ok (.iload_n 1, 1) := by decide +kernel
theorem dX2_holds_5 : decode cX2_holds 5 = .ok (.iaload, 1) := by decide +kernel
theorem dX2_holds_6 : decode cX2_holds 6 = .ok (.iload_n 3, 1) := by decide +kernel
theorem dX2_holds_7 : decode cX2_holds 7 = .ok (.iadd, 1) := by decide +kernel
theorem dX2_holds_8 : decode cX2_holds 8 = .ok (.aload_n 0, 1) := by decide +kernel
theorem dX2_holds_9 : decode cX2_holds 9 = .ok (.getfield 27, 3) := by decide +kernel
theorem dX2_holds_12 : decode cX2_holds 12 = .ok (.iload_n 1, 1) := by decide +kernel
theorem dX2_holds_13 : decode cX2_holds 13 = .ok (.iconst 1, 1) := by decide +kernel
theorem dX2_holds_14 : decode cX2_holds 14 = .ok (.isub, 1) := by decide +kernel
theorem dX2_holds_15 : decode cX2_holds 15 = .ok (.iaload, 1) := by decide +kernel
theorem dX2_holds_16 : decode cX2_holds 16 = .ok (.isub, 1) := by decide +kernel
theorem dX2_holds_17 : decode cX2_holds 17 = .ok (.iload_n 2, 1) := by decide +kernel
theorem dX2_holds_18 : decode cX2_holds 18 = .ok (.isub, 1) := by decide +kernel
theorem dX2_holds_19 : decode cX2_holds 19 = .ok (.istore 4, 2) := by decide +kernel
theorem dX2_holds_21 : decode cX2_holds 21 = .ok (.iload 4, 2) := by decide +kernel
theorem dX2_holds_23 : decode cX2_holds 23 = .ok (.ifCond .le 18, 3) := by decide +kernel
theorem dX2_holds_26 : decode cX2_holds 26 = .ok (.iload 4, 2) := by decide +kernel
theorem dX2_holds_28 : decode cX2_holds 28 = .ok (.aload_n 0, 1) := by decide +kernel
theorem dX2_holds_29 : decode cX2_holds 29 = .ok (.getfield 36, 3) := by decide +kernel
theorem dX2_holds_32 : decode cX2_holds 32 = .ok (.iload_n 1, 1) := by decide +kernel
theorem dX2_holds_33 : decode cX2_holds 33 = .ok (.iaload, 1) := by decide +kernel
theorem dX2_holds_34 : decode cX2_holds 34 = .ok (.if_icmp .gt 7, 3) := by decide +kernel
theorem dX2_holds_37 : decode cX2_holds 37 = .ok (.iconst 1, 1) := by decide +kernel
theorem dX2_holds_38 : decode cX2_holds 38 = .ok (.goto 4, 3) := by decide +kernel
theorem dX2_holds_41 : decode cX2_holds 41 = .ok (.iconst 0, 1) := by decide +kernel
theorem dX2_holds_42 : decode cX2_holds 42 = .ok (.ireturn, 1) := by decide +kernel
theorem dX2_walk_0 : decode cX2_walk 0 = .ok (.iload_n 2, 1) := by decide +kernel
theorem dX2_walk_1 : decode cX2_walk 1 = .ok (.ifCond .eq 19, 3) := by decide +kernel
theorem dX2_walk_4 : decode cX2_walk 4 = .ok (.aload_n 0, 1) := by decide +kernel
theorem dX2_walk_5 : decode cX2_walk 5 = .ok (.getfield 27, 3) := by decide +kernel
theorem dX2_walk_8 : decode cX2_walk 8 = .ok (.iload_n 1, 1) := by decide +kernel
theorem dX2_walk_9 : decode cX2_walk 9 = .ok (.iaload, 1) := by decide +kernel
theorem dX2_walk_10 : decode cX2_walk 10 = .ok (.iload_n 2, 1) := by decide +kernel
theorem dX2_walk_11 : decode cX2_walk 11 = .ok (.iadd, 1) := by decide +kernel
theorem dX2_walk_12 : decode cX2_walk 12 = .ok (.bipush 20, 2) := by decide +kernel
theorem dX2_walk_14 : decode cX2_walk 14 = .ok (.invokestatic 110, 3) := by decide +kernel
theorem dX2_walk_17 : decode cX2_walk 17 = .ok (.ifCond .ne 4, 3) := by decide +kernel
theorem dX2_walk_20 : decode cX2_walk 20 = .ok (.return_, 1) := by decide +kernel
theorem dX2_walk_21 : decode cX2_walk 21 = .ok (.iload_n 1, 1) := by decide +kernel
theorem dX2_walk_22 : decode cX2_walk 22 = .ok (.ifCond .le 13, 3) := by decide +kernel
theorem dX2_walk_25 : decode cX2_walk 25 = .ok (.aload_n 0, 1) := by decide +kernel
theorem dX2_walk_26 : decode cX2_walk 26 = .ok (.iload_n 1, 1) := by decide +kernel
theorem dX2_walk_27 : decode cX2_walk 27 = .ok (.iconst 0, 1) := by decide +kernel
theorem dX2_walk_28 : decode cX2_walk 28 = .ok (.iload_n 2, 1) := by decide +kernel
theorem dX2_walk_29 : decode cX2_walk 29 = .ok (.invokevirtual 113, 3) := by decide +kernel
theorem dX2_walk_32 : decode cX2_walk 32 = .ok (.ifCond .eq 25, 3) := by decide +kernel
theorem dX2_walk_35 : decode cX2_walk 35 = .ok (.iload_n 1, 1) := by decide +kernel
theorem dX2_walk_36 : decode cX2_walk 36 = .ok (.iconst 1, 1) := by decide +kernel
theorem dX2_walk_37 : decode cX2_walk 37 = .ok (.iadd, 1) := by decide +kernel
theorem dX2_walk_38 : decode cX2_walk 38 = .ok (.aload_n 0, 1) := by decide +kernel
theorem dX2_walk_39 : decode cX2_walk 39 = .ok (.getfield 52, 3) := by decide +kernel
theorem dX2_walk_42 : decode cX2_walk 42 = .ok (.if_icmp .ge 16, 3) := by decide +kernel
theorem dX2_walk_45 : decode cX2_walk 45 = .ok (.aload_n 0, 1) := by decide +kernel
theorem dX2_walk_46 : decode cX2_walk 46 = .ok (.iload_n 1, 1) := by decide +kernel
theorem dX2_walk_47 : decode cX2_walk 47 = .ok (.iconst 1, 1) := by decide +kernel
theorem dX2_walk_48 : decode cX2_walk 48 = .ok (.iadd, 1) := by decide +kernel
theorem dX2_walk_49 : decode cX2_walk 49 = .ok (.iload_n 2, 1) := by decide +kernel
theorem dX2_walk_50 : decode cX2_walk 50 = .ok (.iconst 0, 1) := by decide +kernel
theorem dX2_walk_51 : decode cX2_walk 51 = .ok (.invokevirtual 113, 3) := by decide +kernel
theorem dX2_walk_54 : decode cX2_walk 54 = .ok (.ifCond .ne 4, 3) := by decide +kernel
theorem dX2_walk_57 : decode cX2_walk 57 = .ok (.return_, 1) := by decide +kernel
theorem dX2_walk_58 : decode cX2_walk 58 = .ok (.aload_n 0, 1) := by decide +kernel
theorem dX2_walk_59 : decode cX2_walk 59 = .ok (.getfield 27, 3) := by decide +kernel
theorem dX2_walk_62 : decode cX2_walk 62 = .ok (.iload_n 1, 1) := by decide +kernel
theorem dX2_walk_63 : decode cX2_walk 63 = .ok (.dup2, 1) := by decide +kernel
theorem dX2_walk_64 : decode cX2_walk 64 = .ok (.iaload, 1) := by decide +kernel
theorem dX2_walk_65 : decode cX2_walk 65 = .ok (.iload_n 2, 1) := by decide +kernel
theorem dX2_walk_66 : decode cX2_walk 66 = .ok (.iadd, 1) := by decide +kernel
theorem dX2_walk_67 : decode cX2_walk 67 = .ok (.iastore, 1) := by decide +kernel
theorem dX2_walk_68 : decode cX2_walk 68 = .ok (.return_, 1) := by decide +kernel
theorem dX2_pull_0 : decode cX2_pull 0 = .ok (.iload_n 2, 1) := by decide +kernel
theorem dX2_pull_1 : decode cX2_pull 1 = .ok (.ifCond .ne 4, 3) := by decide +kernel
theorem dX2_pull_4 : decode cX2_pull 4 = .ok (.return_, 1) := by decide +kernel
theorem dX2_pull_5 : decode cX2_pull 5 = .ok (.aload_n 0, 1) := by decide +kernel
theorem dX2_pull_6 : decode cX2_pull 6 = .ok (.iload_n 1, 1) := by decide +kernel
theorem dX2_pull_7 : decode cX2_pull 7 = .ok (.iload_n 2, 1) := by decide +kernel
theorem dX2_pull_8 : decode cX2_pull 8 = .ok (.invokevirtual 116, 3) := by decide +kernel
theorem dX2_pull_11 : decode cX2_pull 11 = .ok (.istore_n 3, 1) := by decide +kernel
theorem dX2_pull_12 : decode cX2_pull 12 = .ok (.aload_n 0, 1) := by decide +kernel
theorem dX2_pull_13 : decode cX2_pull 13 = .ok (.iload_n 1, 1) := by decide +kernel
theorem dX2_pull_14 : decode cX2_pull 14 = .ok (.iload_n 2, 1) := by decide +kernel
theorem dX2_pull_15 : decode cX2_pull 15 = .ok (.invokevirtual 119, 3) := by decide +kernel
theorem dX2_pull_18 : decode cX2_pull 18 = .ok (.istore 4, 2) := by decide +kernel
theorem dX2_pull_20 : decode cX2_pull 20 = .ok (.aload_n 0, 1) := by decide +kernel
theorem dX2_pull_21 : decode cX2_pull 21 = .ok (.iload_n 3, 1) := by decide +kernel
theorem dX2_pull_22 : decode cX2_pull 22 = .ok (.iload 4, 2) := by decide +kernel
theorem dX2_pull_24 : decode cX2_pull 24 = .ok (.iload_n 2, 1) := by decide +kernel
theorem dX2_pull_25 : decode cX2_pull 25 = .ok (.invokevirtual 122, 3) := by decide +kernel
theorem dX2_pull_28 : decode cX2_pull 28 = .ok (.ifCond .eq 30, 3) := by decide +kernel
theorem dX2_pull_31 : decode cX2_pull 31 = .ok (.iload_n 3, 1) := by decide +kernel
theorem dX2_pull_32 : decode cX2_pull 32 = .ok (.istore 5, 2) := by decide +kernel
theorem dX2_pull_34 : decode cX2_pull 34 = .ok (.iload 5, 2) := by decide +kernel
theorem dX2_pull_36 : decode cX2_pull 36 = .ok (.iload 4, 2) := by decide +kernel
theorem dX2_pull_38 : decode cX2_pull 38 = .ok (.if_icmp .gt 20, 3) := by decide +kernel
theorem dX2_pull_41 : decode cX2_pull 41 = .ok (.aload_n 0, 1) := by decide +kernel
theorem dX2_pull_42 : decode cX2_pull 42 = .ok (.getfield 27, 3) := by decide +kernel
theorem dX2_pull_45 : decode cX2_pull 45 = .ok (.iload 5, 2) := by decide +kernel
theorem dX2_pull_47 : decode cX2_pull 47 = .ok (.dup2, 1) := by decide +kernel
theorem dX2_pull_48 : decode cX2_pull 48 = .ok (.iaload, 1) := by decide +kernel
theorem dX2_pull_49 : decode cX2_pull 49 = .ok (.iload_n 2, 1) := by decide +kernel
theorem dX2_pull_50 : decode cX2_pull 50 = .ok (.iadd, 1) := by decide +kernel
theorem dX2_pull_51 : decode cX2_pull 51 = .ok (.iastore, 1) := by decide +kernel
theorem dX2_pull_52 : decode cX2_pull 52 = .ok (.iinc 5 1, 3) := by decide +kernel
theorem dX2_pull_55 : decode cX2_pull 55 = .ok (.goto (-21), 3) := by decide +kernel
theorem dX2_pull_58 : decode cX2_pull 58 = .ok (.return_, 1) := by decide +kernel
theorem dX2_canGo_0 : decode cX2_canGo 0 = .ok (.iload_n 1, 1) := by decide +kernel
theorem dX2_canGo_1 : decode cX2_canGo 1 = .ok (.bipush (-9), 2) := by decide +kernel
theorem dX2_canGo_3 : decode cX2_canGo 3 = .ok (.if_icmp .eq 37, 3) := by decide +kernel
theorem dX2_canGo_6 : decode cX2_canGo 6 = .ok (.iload_n 2, 1) := by decide +kernel
theorem dX2_canGo_7 : decode cX2_canGo 7 = .ok (.bipush (-9), 2) := by decide +kernel
theorem dX2_canGo_9 : decode cX2_canGo 9 = .ok (.if_icmp .eq 31, 3) := by decide +kernel
theorem dX2_canGo_12 : decode cX2_canGo 12 = .ok (.aload_n 0, 1) := by decide +kernel
theorem dX2_canGo_13 : decode cX2_canGo 13 = .ok (.getfield 27, 3) := by decide +kernel
theorem dX2_canGo_16 : decode cX2_canGo 16 = .ok (.iload_n 1, 1) := by decide +kernel
theorem dX2_canGo_17 : decode cX2_canGo 17 = .ok (.iaload, 1) := by decide +kernel
theorem dX2_canGo_18 : decode cX2_canGo 18 = .ok (.iload_n 3, 1) := by decide +kernel
theorem dX2_canGo_19 : decode cX2_canGo 19 = .ok (.iadd, 1) := by decide +kernel
theorem dX2_canGo_20 : decode cX2_canGo 20 = .ok (.ifCond .lt 20, 3) := by decide +kernel
theorem dX2_canGo_23 : decode cX2_canGo 23 = .ok (.aload_n 0, 1) := by decide +kernel
theorem dX2_canGo_24 : decode cX2_canGo 24 = .ok (.getfield 27, 3) := by decide +kernel
theorem dX2_canGo_27 : decode cX2_canGo 27 = .ok (.iload_n 2, 1) := by decide +kernel
theorem dX2_canGo_28 : decode cX2_canGo 28 = .ok (.iaload, 1) := by decide +kernel
theorem dX2_canGo_29 : decode cX2_canGo 29 = .ok (.iload_n 3, 1) := by decide +kernel
theorem dX2_canGo_30 : decode cX2_canGo 30 = .ok (.iadd, 1) := by decide +kernel
theorem dX2_canGo_31 : decode cX2_canGo 31 = .ok (.bipush 20, 2) := by decide +kernel
theorem dX2_canGo_33 : decode cX2_canGo 33 = .ok (.if_icmp .ge 7, 3) := by decide +kernel
theorem dX2_canGo_36 : decode cX2_canGo 36 = .ok (.iconst 1, 1) := by decide +kernel
theorem dX2_canGo_37 : decode cX2_canGo 37 = .ok (.goto 4, 3) := by decide +kernel
theorem dX2_canGo_40 : decode cX2_canGo 40 = .ok (.iconst 0, 1) := by decide +kernel
theorem dX2_canGo_41 : decode cX2_canGo 41 = .ok (.ireturn, 1) := by decide +kernel
theorem dX2_firstTaken_0 : decode cX2_firstTaken 0 = .ok (.iload_n 1, 1) := by decide +kernel
theorem dX2_firstTaken_1 : decode cX2_firstTaken 1 = .ok (.istore_n 3, 1) := by decide +kernel
theorem dX2_firstTaken_2 : decode cX2_firstTaken 2 = .ok (.iload_n 3, 1) := by decide +kernel
theorem dX2_firstTaken_3 : decode cX2_firstTaken 3 = .ok (.ifCond .le 27, 3) := by decide +kernel
theorem dX2_firstTaken_6 : decode cX2_firstTaken 6 = .ok (.aload_n 0, 1) := by decide +kernel
theorem dX2_firstTaken_7 : decode cX2_firstTaken 7 = .ok (.iload_n 3, 1) := by decide +kernel
theorem dX2_firstTaken_8 : decode cX2_firstTaken 8 = .ok (.iconst 0, 1) := by decide +kernel
theorem dX2_firstTaken_9 : decode cX2_firstTaken 9 = .ok (.iload_n 2, 1) := by decide +kernel
theorem dX2_firstTaken_10 : decode cX2_firstTaken 10 = .ok (.invokevirtual 113, 3) := by decide +kernel
theorem dX2_firstTaken_13 : decode cX2_firstTaken 13 = .ok (.ifCond .ne 17, 3) := by decide +kernel
theorem dX2_firstTaken_16 : decode cX2_firstTaken 16 = .ok (.iinc 3 (-1), 3) := by decide +kernel
theorem dX2_firstTaken_19 : decode cX2_firstTaken 19 = .ok (.aload_n 0, 1) := by decide +kernel
theorem dX2_firstTaken_20 : decode cX2_firstTaken 20 = .ok (.iload_n 3, 1) := by decide +kernel
theorem dX2_firstTaken_21 : decode cX2_firstTaken 21 = .ok (.invokevirtual 89, 3) := by decide +kernel
theorem dX2_firstTaken_24 : decode cX2_firstTaken 24 = .ok (.ifCond .eq (-22), 3) := by decide +kernel
theorem dX2_firstTaken_27 : decode cX2_firstTaken 27 = .ok (.bipush (-9), 2) := by decide +kernel
theorem dX2_firstTaken_29 : decode cX2_firstTaken 29 = .ok (.ireturn, 1) := by decide +kernel
theorem dX2_firstTaken_30 : decode cX2_firstTaken 30 = .ok (.iload_n 3, 1) := by decide +kernel
theorem dX2_firstTaken_31 : decode cX2_firstTaken 31 = .ok (.ireturn, 1) := by decide +kernel
theorem dX2_lastTaken_0 : decode cX2_lastTaken 0 = .ok (.iload_n 1, 1) := by decide +kernel
theorem dX2_lastTaken_1 : decode cX2_lastTaken 1 = .ok (.istore_n 3, 1) := by decide +kernel
theorem dX2_lastTaken_2 : decode cX2_lastTaken 2 = .ok (.iload_n 3, 1) := by decide +kernel
theorem dX2_lastTaken_3 : decode cX2_lastTaken 3 = .ok (.iconst 1, 1) := by decide +kernel
theorem dX2_lastTaken_4 : decode cX2_lastTaken 4 = .ok (.iadd, 1) := by decide +kernel
theorem dX2_lastTaken_5 : decode cX2_lastTaken 5 = .ok (.aload_n 0, 1) := by decide +kernel
theorem dX2_lastTaken_6 : decode cX2_lastTaken 6 = .ok (.getfield 52, 3) := by decide +kernel
theorem dX2_lastTaken_9 : decode cX2_lastTaken 9 = .ok (.if_icmp .ge 29, 3) := by decide +kernel
theorem dX2_lastTaken_12 : decode cX2_lastTaken 12 = .ok (.aload_n 0, 1) := by decide +kernel
theorem dX2_lastTaken_13 : decode cX2_lastTaken 13 = .ok (.iload_n 3, 1) := by decide +kernel
theorem dX2_lastTaken_14 : decode cX2_lastTaken 14 = .ok (.iconst 1, 1) := by decide +kernel
theorem dX2_lastTaken_15 : decode cX2_lastTaken 15 = .ok (.iadd, 1) := by decide +kernel
theorem dX2_lastTaken_16 : decode cX2_lastTaken 16 = .ok (.iload_n 2, 1) := by decide +kernel
theorem dX2_lastTaken_17 : decode cX2_lastTaken 17 = .ok (.iconst 0, 1) := by decide +kernel
theorem dX2_lastTaken_18 : decode cX2_lastTaken 18 = .ok (.invokevirtual 113, 3) := by decide +kernel
theorem dX2_lastTaken_21 : decode cX2_lastTaken 21 = .ok (.ifCond .ne 17, 3) := by decide +kernel
theorem dX2_lastTaken_24 : decode cX2_lastTaken 24 = .ok (.iinc 3 1, 3) := by decide +kernel
theorem dX2_lastTaken_27 : decode cX2_lastTaken 27 = .ok (.aload_n 0, 1) := by decide +kernel
theorem dX2_lastTaken_28 : decode cX2_lastTaken 28 = .ok (.iload_n 3, 1) := by decide +kernel
theorem dX2_lastTaken_29 : decode cX2_lastTaken 29 = .ok (.invokevirtual 89, 3) := by decide +kernel
theorem dX2_lastTaken_32 : decode cX2_lastTaken 32 = .ok (.ifCond .eq (-30), 3) := by decide +kernel
theorem dX2_lastTaken_35 : decode cX2_lastTaken 35 = .ok (.bipush (-9), 2) := by decide +kernel
theorem dX2_lastTaken_37 : decode cX2_lastTaken 37 = .ok (.ireturn, 1) := by decide +kernel
theorem dX2_lastTaken_38 : decode cX2_lastTaken 38 = .ok (.iload_n 3, 1) := by decide +kernel
theorem dX2_lastTaken_39 : decode cX2_lastTaken 39 = .ok (.ireturn, 1) := by decide +kernel
theorem dX2_takenAlongRight_0 : decode cX2_takenAlongRight 0 = .ok (.aload_n 0, 1) := by decide +kernel
theorem dX2_takenAlongRight_1 : decode cX2_takenAlongRight 1 = .ok (.iload_n 1, 1) := by decide +kernel
theorem dX2_takenAlongRight_2 : decode cX2_takenAlongRight 2 = .ok (.iconst 1, 1) := by decide +kernel
theorem dX2_takenAlongRight_3 : decode cX2_takenAlongRight 3 = .ok (.invokevirtual 116, 3) := by decide +kernel
theorem dX2_takenAlongRight_6 : decode cX2_takenAlongRight 6 = .ok (.istore_n 2, 1) := by decide +kernel
theorem dX2_takenAlongRight_7 : decode cX2_takenAlongRight 7 = .ok (.aload_n 0, 1) := by decide +kernel
theorem dX2_takenAlongRight_8 : decode cX2_takenAlongRight 8 = .ok (.iload_n 1, 1) := by decide +kernel
theorem dX2_takenAlongRight_9 : decode cX2_takenAlongRight 9 = .ok (.iconst 1, 1) := by decide +kernel
theorem dX2_takenAlongRight_10 : decode cX2_takenAlongRight 10 = .ok (.invokevirtual 119, 3) := by decide +kernel
theorem dX2_takenAlongRight_13 : decode cX2_takenAlongRight 13 = .ok (.istore_n 3, 1) := by decide +kernel
theorem dX2_takenAlongRight_14 : decode cX2_takenAlongRight 14 = .ok (.aload_n 0, 1) := by decide +kernel
theorem dX2_takenAlongRight_15 : decode cX2_takenAlongRight 15 = .ok (.iload_n 2, 1) := by decide +kernel
theorem dX2_takenAlongRight_16 : decode cX2_takenAlongRight 16 = .ok (.iload_n 3, 1) := by decide +kernel
theorem dX2_takenAlongRight_17 : decode cX2_takenAlongRight 17 = .ok (.iconst 1, 1) := by decide +kernel
theorem dX2_takenAlongRight_18 : decode cX2_takenAlongRight 18 = .ok (.invokevirtual 122, 3) := by decide +kernel
theorem dX2_takenAlongRight_21 : decode cX2_takenAlongRight 21 = .ok (.ifCond .eq 9, 3) := by decide +kernel
theorem dX2_takenAlongRight_24 : decode cX2_takenAlongRight 24 = .ok (.iload_n 3, 1) := by decide +kernel
theorem dX2_takenAlongRight_25 : decode cX2_takenAlongRight 25 = .ok (.iload_n 2, 1) := by decide +kernel
theorem dX2_takenAlongRight_26 : decode cX2_takenAlongRight 26 = .ok (.isub, 1) := by decide +kernel
theorem dX2_takenAlongRight_27 : decode cX2_takenAlongRight 27 = .ok (.goto 4, 3) := by decide +kernel
theorem dX2_takenAlongRight_30 : decode cX2_takenAlongRight 30 = .ok (.iconst 0, 1) := by decide +kernel
theorem dX2_takenAlongRight_31 : decode cX2_takenAlongRight 31 = .ok (.ireturn, 1) := by decide +kernel
theorem dX2_neighboursApart_0 : decode cX2_neighboursApart 0 = .ok (.iload_n 1, 1) := by decide +kernel
theorem dX2_neighboursApart_1 : decode cX2_neighboursApart 1 = .ok (.ifCond .le 33, 3) := by decide +kernel
theorem dX2_neighboursApart_4 : decode cX2_neighboursApart 4 = .ok (.iload_n 1, 1) := by decide +kernel
theorem dX2_neighboursApart_5 : decode cX2_neighboursApart 5 = .ok (.iconst 1, 1) := by decide +kernel
theorem dX2_neighboursApart_6 : decode cX2_neighboursApart 6 = .ok (.iadd, 1) := by decide +kernel
theorem dX2_neighboursApart_7 : decode cX2_neighboursApart 7 = .ok (.aload_n 0, 1) := by decide +kernel
theorem dX2_neighboursApart_8 : decode cX2_neighboursApart 8 = .ok (.getfield 52, 3) := by decide +kernel
theorem dX2_neighboursApart_11 : decode cX2_neighboursApart 11 = .ok (.if_icmp .ge 23, 3) := by decide +kernel
theorem dX2_neighboursApart_14 : decode cX2_neighboursApart 14 = .ok (.aload_n 0, 1) := by decide +kernel
theorem dX2_neighboursApart_15 : decode cX2_neighboursApart 15 = .ok (.getfield 27, 3) := by decide +kernel
theorem dX2_neighboursApart_18 : decode cX2_neighboursApart 18 = .ok (.iload_n 1, 1) := by decide +kernel
theorem dX2_neighboursApart_19 : decode cX2_neighboursApart 19 = .ok (.iconst 1, 1) := by decide +kernel
theorem dX2_neighboursApart_20 : decode cX2_neighboursApart 20 = .ok (.iadd, 1) := by decide +kernel
theorem dX2_neighboursApart_21 : decode cX2_neighboursApart 21 = .ok (.iaload, 1) := by decide +kernel
theorem dX2_neighboursApart_22 : decode cX2_neighboursApart 22 = .ok (.aload_n 0, 1) := by decide +kernel
theorem dX2_neighboursApart_23 : decode cX2_neighboursApart 23 = .ok (.getfield 27, 3) := by decide +kernel
theorem dX2_neighboursApart_26 : decode cX2_neighboursApart 26 = .ok (.iload_n 1, 1) := by decide +kernel
theorem dX2_neighboursApart_27 : decode cX2_neighboursApart 27 = .ok (.iconst 1, 1) := by decide +kernel
theorem dX2_neighboursApart_28 : decode cX2_neighboursApart 28 = .ok (.isub, 1) := by decide +kernel
theorem dX2_neighboursApart_29 : decode cX2_neighboursApart 29 = .ok (.iaload, 1) := by decide +kernel
theorem dX2_neighboursApart_30 : decode cX2_neighboursApart 30 = .ok (.isub, 1) := by decide +kernel
theorem dX2_neighboursApart_31 : decode cX2_neighboursApart 31 = .ok (.goto 4, 3) := by decide +kernel
theorem dX2_neighboursApart_34 : decode cX2_neighboursApart 34 = .ok (.iconst 0, 1) := by decide +kernel
theorem dX2_neighboursApart_35 : decode cX2_neighboursApart 35 = .ok (.ireturn, 1) := by decide +kernel
theorem dX2_stallsInReach_0 : decode cX2_stallsInReach 0 = .ok (.iconst 0, 1) := by decide +kernel
theorem dX2_stallsInReach_1 : decode cX2_stallsInReach 1 = .ok (.istore_n 2, 1) := by decide +kernel
theorem dX2_stallsInReach_2 : decode cX2_stallsInReach 2 = .ok (.iconst 0, 1) := by decide +kernel
theorem dX2_stallsInReach_3 : decode cX2_stallsInReach 3 = .ok (.istore_n 3, 1) := by decide +kernel
theorem dX2_stallsInReach_4 : decode cX2_stallsInReach 4 = .ok (.iload_n 3, 1) := by decide +kernel
theorem dX2_stallsInReach_5 : decode cX2_stallsInReach 5 = .ok (.aload_n 0, 1) := by decide +kernel
theorem dX2_stallsInReach_6 : decode cX2_stallsInReach 6 = .ok (.getfield 49, 3) := by decide +kernel
theorem dX2_stallsInReach_9 : decode cX2_stallsInReach 9 = .ok (.if_icmp .ge 40, 3) := by decide +kernel
theorem dX2_stallsInReach_12 : decode cX2_stallsInReach 12 = .ok (.iload_n 2, 1) := by decide +kernel
theorem dX2_stallsInReach_13 : decode cX2_stallsInReach 13 = .ok (.aload_n 0, 1) := by decide +kernel
theorem dX2_stallsInReach_14 : decode cX2_stallsInReach 14 = .ok (.getfield 9, 3) := by decide +kernel
theorem dX2_stallsInReach_17 : decode cX2_stallsInReach 17 = .ok (.iload_n 3, 1) := by decide +kernel
theorem dX2_stallsInReach_18 : decode cX2_stallsInReach 18 = .ok (.iaload, 1) := by decide +kernel
theorem dX2_stallsInReach_19 : decode cX2_stallsInReach 19 = .ok (.aload_n 0, 1) := by decide +kernel
theorem dX2_stallsInReach_20 : decode cX2_stallsInReach 20 = .ok (.getfield 27, 3) := by decide +kernel
theorem dX2_stallsInReach_23 : decode cX2_stallsInReach 23 = .ok (.iload_n 1, 1) := by decide +kernel
theorem dX2_stallsInReach_24 : decode cX2_stallsInReach 24 = .ok (.iaload, 1) := by decide +kernel
theorem dX2_stallsInReach_25 : decode cX2_stallsInReach 25 = .ok (.isub, 1) := by decide +kernel
theorem dX2_stallsInReach_26 : decode cX2_stallsInReach 26 = .ok (.invokestatic 83, 3) := by decide +kernel
theorem dX2_stallsInReach_29 : decode cX2_stallsInReach 29 = .ok (.aload_n 0, 1) := by decide +kernel
theorem dX2_stallsInReach_30 : decode cX2_stallsInReach 30 = .ok (.getfield 42, 3) := by decide +kernel
theorem dX2_stallsInReach_33 : decode cX2_stallsInReach 33 = .ok (.if_icmp .gt 7, 3) := by decide +kernel
theorem dX2_stallsInReach_36 : decode cX2_stallsInReach 36 = .ok (.iconst 1, 1) := by decide +kernel
theorem dX2_stallsInReach_37 : decode cX2_stallsInReach 37 = .ok (.goto 4, 3) := by decide +kernel
theorem dX2_stallsInReach_40 : decode cX2_stallsInReach 40 = .ok (.iconst 0, 1) := by decide +kernel
theorem dX2_stallsInReach_41 : decode cX2_stallsInReach 41 = .ok (.iadd, 1) := by decide +kernel
theorem dX2_stallsInReach_42 : decode cX2_stallsInReach 42 = .ok (.istore_n 2, 1) := by decide +kernel
theorem dX2_stallsInReach_43 : decode cX2_stallsInReach 43 = .ok (.iinc 3 1, 3) := by decide +kernel
theorem dX2_stallsInReach_46 : decode cX2_stallsInReach 46 = .ok (.goto (-42), 3) := by decide +kernel
theorem dX2_stallsInReach_49 : decode cX2_stallsInReach 49 = .ok (.iload_n 2, 1) := by decide +kernel
theorem dX2_stallsInReach_50 : decode cX2_stallsInReach 50 = .ok (.ireturn, 1) := by decide +kernel
theorem dX2_sell_0 : decode cX2_sell 0 = .ok (.iconst 0, 1) := by decide +kernel
theorem dX2_sell_1 : decode cX2_sell 1 = .ok (.istore_n 2, 1) := by decide +kernel
theorem dX2_sell_2 : decode cX2_sell 2 = .ok (.iconst 0, 1) := by decide +kernel
theorem dX2_sell_3 : decode cX2_sell 3 = .ok (.istore_n 3, 1) := by decide +kernel
theorem dX2_sell_4 : decode cX2_sell 4 = .ok (.iload_n 3, 1) := by decide +kernel
theorem dX2_sell_5 : decode cX2_sell 5 = .ok (.aload_n 0, 1) := by decide +kernel
theorem dX2_sell_6 : decode cX2_sell 6 = .ok (.getfield 52, 3) := by decide +kernel
theorem dX2_sell_9 : decode cX2_sell 9 = .ok (.if_icmp .ge 95, 3) := by decide +kernel
theorem dX2_sell_12 : decode cX2_sell 12 = .ok (.aload_n 0, 1) := by decide +kernel
theorem dX2_sell_13 : decode cX2_sell 13 = .ok (.getfield 30, 3) := by decide +kernel
theorem dX2_sell_16 : decode cX2_sell 16 = .ok (.iload_n 3, 1) := by decide +kernel
theorem dX2_sell_17 : decode cX2_sell 17 = .ok (.iaload, 1) := by decide +kernel
theorem dX2_sell_18 : decode cX2_sell 18 = .ok (.iconst 4, 1) := by decide +kernel
theorem dX2_sell_19 : decode cX2_sell 19 = .ok (.if_icmp .eq 79, 3) := by decide +kernel
theorem dX2_sell_22 : decode cX2_sell 22 = .ok (.aload_n 0, 1) := by decide +kernel
theorem dX2_sell_23 : decode cX2_sell 23 = .ok (.aload_n 0, 1) := by decide +kernel
theorem dX2_sell_24 : decode cX2_sell 24 = .ok (.getfield 27, 3) := by decide +kernel
theorem dX2_sell_27 : decode cX2_sell 27 = .ok (.iload_n 3, 1) := by decide +kernel
theorem dX2_sell_28 : decode cX2_sell 28 = .ok (.iaload, 1) := by decide +kernel
theorem dX2_sell_29 : decode cX2_sell 29 = .ok (.iload_n 1, 1) := by decide +kernel
theorem dX2_sell_30 : decode cX2_sell 30 = .ok (.invokevirtual 125, 3) := by decide +kernel
theorem dX2_sell_33 : decode cX2_sell 33 = .ok (.ifCond .eq 65, 3) := by decide +kernel
theorem dX2_sell_36 : decode cX2_sell 36 = .ok (.aload_n 0, 1) := by decide +kernel
theorem dX2_sell_37 : decode cX2_sell 37 = .ok (.aload_n 0, 1) := by decide +kernel
theorem dX2_sell_38 : decode cX2_sell 38 = .ok (.getfield 27, 3) := by decide +kernel
theorem dX2_sell_41 : decode cX2_sell 41 = .ok (.iload_n 3, 1) := by decide +kernel
theorem dX2_sell_42 : decode cX2_sell 42 = .ok (.iaload, 1) := by decide +kernel
theorem dX2_sell_43 : decode cX2_sell 43 = .ok (.aload_n 0, 1) := by decide +kernel
theorem dX2_sell_44 : decode cX2_sell 44 = .ok (.getfield 30, 3) := by decide +kernel
theorem dX2_sell_47 : decode cX2_sell 47 = .ok (.iload_n 3, 1) := by decide +kernel
theorem dX2_sell_48 : decode cX2_sell 48 = .ok (.iaload, 1) := by decide +kernel
theorem dX2_sell_49 : decode cX2_sell 49 = .ok (.invokevirtual 128, 3) := by decide +kernel
theorem dX2_sell_52 : decode cX2_sell 52 = .ok (.istore 4, 2) := by decide +kernel
theorem dX2_sell_54 : decode cX2_sell 54 = .ok (.iload 4, 2) := by decide +kernel
theorem dX2_sell_56 : decode cX2_sell 56 = .ok (.bipush (-9), 2) := by decide +kernel
theorem dX2_sell_58 : decode cX2_sell 58 = .ok (.if_icmp .eq 40, 3) := by decide +kernel
theorem dX2_sell_61 : decode cX2_sell 61 = .ok (.aload_n 0, 1) := by decide +kernel
theorem dX2_sell_62 : decode cX2_sell 62 = .ok (.getfield 33, 3) := by decide +kernel
theorem dX2_sell_65 : decode cX2_sell 65 = .ok (.iload_n 3, 1) := by decide +kernel
theorem dX2_sell_66 : decode cX2_sell 66 = .ok (.dup2, 1) := by decide +kernel
theorem dX2_sell_67 : decode cX2_sell 67 = .ok (.iaload, 1) := by decide +kernel
theorem dX2_sell_68 : decode cX2_sell 68 = .ok (.aload_n 0, 1) := by decide +kernel
theorem dX2_sell_69 : decode cX2_sell 69 = .ok (.getfield 18, 3) := by decide +kernel
theorem dX2_sell_72 : decode cX2_sell 72 = .ok (.iload 4, 2) := by decide +kernel
theorem dX2_sell_74 : decode cX2_sell 74 = .ok (.iaload, 1) := by decide +kernel
theorem dX2_sell_75 : decode cX2_sell 75 = .ok (.iadd, 1) := by decide +kernel
theorem dX2_sell_76 : decode cX2_sell 76 = .ok (.iastore, 1) := by decide +kernel
theorem dX2_sell_77 : decode cX2_sell 77 = .ok (.aload_n 0, 1) := by decide +kernel
theorem dX2_sell_78 : decode cX2_sell 78 = .ok (.getfield 21, 3) := by decide +kernel
theorem dX2_sell_81 : decode cX2_sell 81 = .ok (.iload 4, 2) := by decide +kernel
theorem dX2_sell_83 : decode cX2_sell 83 = .ok (.dup2, 1) := by decide +kernel
theorem dX2_sell_84 : decode cX2_sell 84 = .ok (.iaload, 1) := by decide +kernel
theorem dX2_sell_85 : decode cX2_sell 85 = .ok (.iconst 1, 1) := by decide +kernel
theorem dX2_sell_86 : decode cX2_sell 86 = .ok (.iadd, 1) := by decide +kernel
theorem dX2_sell_87 : decode cX2_sell 87 = .ok (.iastore, 1) := by decide +kernel
theorem dX2_sell_88 : decode cX2_sell 88 = .ok (.aload_n 0, 1) := by decide +kernel
theorem dX2_sell_89 : decode cX2_sell 89 = .ok (.getfield 30, 3) := by decide +kernel
theorem dX2_sell_92 : decode cX2_sell 92 = .ok (.iload_n 3, 1) := by decide +kernel
theorem dX2_sell_93 : decode cX2_sell 93 = .ok (.iconst 4, 1) := by decide +kernel
theorem dX2_sell_94 : decode cX2_sell 94 = .ok (.iastore, 1) := by decide +kernel
theorem dX2_sell_95 : decode cX2_sell 95 = .ok (.iinc 2 1, 3) := by decide +kernel
theorem dX2_sell_98 : decode cX2_sell 98 = .ok (.iinc 3 1, 3) := by decide +kernel
theorem dX2_sell_101 : decode cX2_sell 101 = .ok (.goto (-97), 3) := by decide +kernel
theorem dX2_sell_104 : decode cX2_sell 104 = .ok (.iload_n 2, 1) := by decide +kernel
theorem dX2_sell_105 : decode cX2_sell 105 = .ok (.ireturn, 1) := by decide +kernel
theorem dX2_stallHere_0 : decode cX2_stallHere 0 = .ok (.iconst 0, 1) := by decide +kernel
theorem dX2_stallHere_1 : decode cX2_stallHere 1 = .ok (.istore_n 3, 1) := by decide +kernel
theorem dX2_stallHere_2 : decode cX2_stallHere 2 = .ok (.iload_n 3, 1) := by decide +kernel
theorem dX2_stallHere_3 : decode cX2_stallHere 3 = .ok (.aload_n 0, 1) := by decide +kernel
theorem dX2_stallHere_4 : decode cX2_stallHere 4 = .ok (.getfield 49, 3) := by decide +kernel
theorem dX2_stallHere_7 : decode cX2_stallHere 7 = .ok (.if_icmp .ge 31, 3) := by decide +kernel
theorem dX2_stallHere_10 : decode cX2_stallHere 10 = .ok (.aload_n 0, 1) := by decide +kernel
theorem dX2_stallHere_11 : decode cX2_stallHere 11 = .ok (.getfield 9, 3) := by decide +kernel
theorem dX2_stallHere_14 : decode cX2_stallHere 14 = .ok (.iload_n 3, 1) := by decide +kernel
theorem dX2_stallHere_15 : decode cX2_stallHere 15 = .ok (.iaload, 1) := by decide +kernel
theorem dX2_stallHere_16 : decode cX2_stallHere 16 = .ok (.iload_n 1, 1) := by decide +kernel
theorem dX2_stallHere_17 : decode cX2_stallHere 17 = .ok (.if_icmp .ne 15, 3) := by decide +kernel
theorem dX2_stallHere_20 : decode cX2_stallHere 20 = .ok (.aload_n 0, 1) := by decide +kernel
theorem dX2_stallHere_21 : decode cX2_stallHere 21 = .ok (.getfield 15, 3) := by decide +kernel
theorem dX2_stallHere_24 : decode cX2_stallHere 24 = .ok (.iload_n 3, 1) := by decide +kernel
theorem dX2_stallHere_25 : decode cX2_stallHere 25 = .ok (.iaload, 1) := by decide +kernel
theorem dX2_stallHere_26 : decode cX2_stallHere 26 = .ok (.iload_n 2, 1) := by decide +kernel
theorem dX2_stallHere_27 : decode cX2_stallHere 27 = .ok (.if_icmp .ne 5, 3) := by decide +kernel
theorem dX2_stallHere_30 : decode cX2_stallHere 30 = .ok (.iload_n 3, 1) := by decide +kernel
theorem dX2_stallHere_31 : decode cX2_stallHere 31 = .ok (.ireturn, 1) := by decide +kernel
theorem dX2_stallHere_32 : decode cX2_stallHere 32 = .ok (.iinc 3 1, 3) := by decide +kernel
theorem dX2_stallHere_35 : decode cX2_stallHere 35 = .ok (.goto (-33), 3) := by decide +kernel
theorem dX2_stallHere_38 : decode cX2_stallHere 38 = .ok (.bipush (-9), 2) := by decide +kernel
theorem dX2_stallHere_40 : decode cX2_stallHere 40 = .ok (.ireturn, 1) := by decide +kernel
theorem dX2_lastSpot_0 : decode cX2_lastSpot 0 = .ok (.aload_n 0, 1) := by decide +kernel
theorem dX2_lastSpot_1 : decode cX2_lastSpot 1 = .ok (.getfield 52, 3) := by decide +kernel
theorem dX2_lastSpot_4 : decode cX2_lastSpot 4 = .ok (.ifCond .ne 7, 3) := by decide +kernel
theorem dX2_lastSpot_7 : decode cX2_lastSpot 7 = .ok (.iconst 0, 1) := by decide +kernel
theorem dX2_lastSpot_8 : decode cX2_lastSpot 8 = .ok (.goto 14, 3) := by decide +kernel
theorem dX2_lastSpot_11 : decode cX2_lastSpot 11 = .ok (.aload_n 0, 1) := by decide +kernel
theorem dX2_lastSpot_12 : decode cX2_lastSpot 12 = .ok (.getfield 27, 3) := by decide +kernel
theorem dX2_lastSpot_15 : decode cX2_lastSpot 15 = .ok (.aload_n 0, 1) := by decide +kernel
theorem dX2_lastSpot_16 : decode cX2_lastSpot 16 = .ok (.getfield 52, 3) := by decide +kernel
theorem dX2_lastSpot_19 : decode cX2_lastSpot 19 = .ok (.iconst 1, 1) := by decide +kernel
theorem dX2_lastSpot_20 : decode cX2_lastSpot 20 = .ok (.isub, 1) := by decide +kernel
theorem dX2_lastSpot_21 : decode cX2_lastSpot 21 = .ok (.iaload, 1) := by decide +kernel
theorem dX2_lastSpot_22 : decode cX2_lastSpot 22 = .ok (.ireturn, 1) := by decide +kernel
theorem dX2_isShaded_0 : decode cX2_isShaded 0 = .ok (.aload_n 0, 1) := by decide +kernel
theorem dX2_isShaded_1 : decode cX2_isShaded 1 = .ok (.getfield 52, 3) := by decide +kernel
theorem dX2_isShaded_4 : decode cX2_isShaded 4 = .ok (.ifCond .le 29, 3) := by decide +kernel
theorem dX2_isShaded_7 : decode cX2_isShaded 7 = .ok (.iload_n 1, 1) := by decide +kernel
theorem dX2_isShaded_8 : decode cX2_isShaded 8 = .ok (.aload_n 0, 1) := by decide +kernel
theorem dX2_isShaded_9 : decode cX2_isShaded 9 = .ok (.getfield 27, 3) := by decide +kernel
theorem dX2_isShaded_12 : decode cX2_isShaded 12 = .ok (.iconst 0, 1) := by decide +kernel
theorem dX2_isShaded_13 : decode cX2_isShaded 13 = .ok (.iaload, 1) := by decide +kernel
theorem dX2_isShaded_14 : decode cX2_isShaded 14 = .ok (.iload_n 2, 1) := by decide +kernel
theorem dX2_isShaded_15 : decode cX2_isShaded 15 = .ok (.iadd, 1) := by decide +kernel
theorem dX2_isShaded_16 : decode cX2_isShaded 16 = .ok (.if_icmp .lt 17, 3) := by decide +kernel
theorem dX2_isShaded_19 : decode cX2_isShaded 19 = .ok (.iload_n 1, 1) := by decide +kernel
theorem dX2_isShaded_20 : decode cX2_isShaded 20 = .ok (.aload_n 0, 1) := by decide +kernel
theorem dX2_isShaded_21 : decode cX2_isShaded 21 = .ok (.invokevirtual 131, 3) := by decide +kernel
theorem dX2_isShaded_24 : decode cX2_isShaded 24 = .ok (.iload_n 2, 1) := by decide +kernel
theorem dX2_isShaded_25 : decode cX2_isShaded 25 = .ok (.iadd, 1) := by decide +kernel
theorem dX2_isShaded_26 : decode cX2_isShaded 26 = .ok (.if_icmp .gt 7, 3) := by decide +kernel
theorem dX2_isShaded_29 : decode cX2_isShaded 29 = .ok (.iconst 1, 1) := by decide +kernel
theorem dX2_isShaded_30 : decode cX2_isShaded 30 = .ok (.goto 4, 3) := by decide +kernel
theorem dX2_isShaded_33 : decode cX2_isShaded 33 = .ok (.iconst 0, 1) := by decide +kernel
theorem dX2_isShaded_34 : decode cX2_isShaded 34 = .ok (.ireturn, 1) := by decide +kernel
theorem dX2_stallsShaded_0 : decode cX2_stallsShaded 0 = .ok (.iconst 0, 1) := by decide +kernel
theorem dX2_stallsShaded_1 : decode cX2_stallsShaded 1 = .ok (.istore_n 2, 1) := by decide +kernel
theorem dX2_stallsShaded_2 : decode cX2_stallsShaded 2 = .ok (.iconst 0, 1) := by decide +kernel
theorem dX2_stallsShaded_3 : decode cX2_stallsShaded 3 = .ok (.istore_n 3, 1) := by decide +kernel
theorem dX2_stallsShaded_4 : decode cX2_stallsShaded 4 = .ok (.iload_n 3, 1) := by decide +kernel
theorem dX2_stallsShaded_5 : decode cX2_stallsShaded 5 = .ok (.aload_n 0, 1) := by decide +kernel
theorem dX2_stallsShaded_6 : decode cX2_stallsShaded 6 = .ok (.getfield 49, 3) := by decide +kernel
theorem dX2_stallsShaded_9 : decode cX2_stallsShaded 9 = .ok (.if_icmp .ge 29, 3) := by decide +kernel
theorem dX2_stallsShaded_12 : decode cX2_stallsShaded 12 = .ok (.aload_n 0, 1) := by decide +kernel
theorem dX2_stallsShaded_13 : decode cX2_stallsShaded 13 = .ok (.aload_n 0, 1) := by decide +kernel
theorem dX2_stallsShaded_14 : decode cX2_stallsShaded 14 = .ok (.getfield 9, 3) := by decide +kernel
theorem dX2_stallsShaded_17 : decode cX2_stallsShaded 17 = .ok (.iload_n 3, 1) := by decide +kernel
theorem dX2_stallsShaded_18 : decode cX2_stallsShaded 18 = .ok (.iaload, 1) := by decide +kernel
theorem dX2_stallsShaded_19 : decode cX2_stallsShaded 19 = .ok (.iload_n 1, 1) := by decide +kernel
theorem dX2_stallsShaded_20 : decode cX2_stallsShaded 20 = .ok (.invokevirtual 125, 3) := by decide +kernel
theorem dX2_stallsShaded_23 : decode cX2_stallsShaded 23 = .ok (.ifCond .eq 9, 3) := by decide +kernel
theorem dX2_stallsShaded_26 : decode cX2_stallsShaded 26 = .ok (.iload_n 2, 1) := by decide +kernel
theorem dX2_stallsShaded_27 : decode cX2_stallsShaded 27 = .ok (.iconst 1, 1) := by decide +kernel
theorem dX2_stallsShaded_28 : decode cX2_stallsShaded 28 = .ok (.iload_n 3, 1) := by decide +kernel
theorem dX2_stallsShaded_29 : decode cX2_stallsShaded 29 = .ok (.ishl, 1) := by decide +kernel
theorem dX2_stallsShaded_30 : decode cX2_stallsShaded 30 = .ok (.ior, 1) := by decide +kernel
theorem dX2_stallsShaded_31 : decode cX2_stallsShaded 31 = .ok (.istore_n 2, 1) := by decide +kernel
theorem dX2_stallsShaded_32 : decode cX2_stallsShaded 32 = .ok (.iinc 3 1, 3) := by decide +kernel
theorem dX2_stallsShaded_35 : decode cX2_stallsShaded 35 = .ok (.goto (-31), 3) := by decide +kernel
theorem dX2_stallsShaded_38 : decode cX2_stallsShaded 38 = .ok (.iload_n 2, 1) := by decide +kernel
theorem dX2_stallsShaded_39 : decode cX2_stallsShaded 39 = .ok (.ireturn, 1) := by decide +kernel
theorem dX2_shiftAll_0 : decode cX2_shiftAll 0 = .ok (.aload_n 0, 1) := by decide +kernel
theorem dX2_shiftAll_1 : decode cX2_shiftAll 1 = .ok (.getfield 52, 3) := by decide +kernel
theorem dX2_shiftAll_4 : decode cX2_shiftAll 4 = .ok (.ifCond .eq 18, 3) := by decide +kernel
theorem dX2_shiftAll_7 : decode cX2_shiftAll 7 = .ok (.aload_n 0, 1) := by decide +kernel
theorem dX2_shiftAll_8 : decode cX2_shiftAll 8 = .ok (.iconst 0, 1) := by decide +kernel
theorem dX2_shiftAll_9 : decode cX2_shiftAll 9 = .ok (.aload_n 0, 1) := by decide +kernel
theorem dX2_shiftAll_10 : decode cX2_shiftAll 10 = .ok (.getfield 52, 3) := by decide +kernel
theorem dX2_shiftAll_13 : decode cX2_shiftAll 13 = .ok (.iconst 1, 1) := by decide +kernel
theorem dX2_shiftAll_14 : decode cX2_shiftAll 14 = .ok (.isub, 1) := by decide +kernel
theorem dX2_shiftAll_15 : decode cX2_shiftAll 15 = .ok (.iload_n 1, 1) := by decide +kernel
theorem dX2_shiftAll_16 : decode cX2_shiftAll 16 = .ok (.invokevirtual 122, 3) := by decide +kernel
theorem dX2_shiftAll_19 : decode cX2_shiftAll 19 = .ok (.ifCond .ne 5, 3) := by decide +kernel
theorem dX2_shiftAll_22 : decode cX2_shiftAll 22 = .ok (.iconst 0, 1) := by decide +kernel
theorem dX2_shiftAll_23 : decode cX2_shiftAll 23 = .ok (.ireturn, 1) := by decide +kernel
theorem dX2_shiftAll_24 : decode cX2_shiftAll 24 = .ok (.iconst 0, 1) := by decide +kernel
theorem dX2_shiftAll_25 : decode cX2_shiftAll 25 = .ok (.istore_n 2, 1) := by decide +kernel
theorem dX2_shiftAll_26 : decode cX2_shiftAll 26 = .ok (.iload_n 2, 1) := by decide +kernel
theorem dX2_shiftAll_27 : decode cX2_shiftAll 27 = .ok (.aload_n 0, 1) := by decide +kernel
theorem dX2_shiftAll_28 : decode cX2_shiftAll 28 = .ok (.getfield 52, 3) := by decide +kernel
theorem dX2_shiftAll_31 : decode cX2_shiftAll 31 = .ok (.if_icmp .ge 19, 3) := by decide +kernel
theorem dX2_shiftAll_34 : decode cX2_shiftAll 34 = .ok (.aload_n 0, 1) := by decide +kernel
theorem dX2_shiftAll_35 : decode cX2_shiftAll 35 = .ok (.getfield 27, 3) := by decide +kernel
theorem dX2_shiftAll_38 : decode cX2_shiftAll 38 = .ok (.iload_n 2, 1) := by decide +kernel
theorem dX2_shiftAll_39 : decode cX2_shiftAll 39 = .ok (.dup2, 1) := by decide +kernel
theorem dX2_shiftAll_40 : decode cX2_shiftAll 40 = .ok (.iaload, 1) := by decide +kernel
theorem dX2_shiftAll_41 : decode cX2_shiftAll 41 = .ok (.iload_n 1, 1) := by decide +kernel
theorem dX2_shiftAll_42 : decode cX2_shiftAll 42 = .ok (.iadd, 1) := by decide +kernel
theorem dX2_shiftAll_43 : decode cX2_shiftAll 43 = .ok (.iastore, 1) := by decide +kernel
theorem dX2_shiftAll_44 : decode cX2_shiftAll 44 = .ok (.iinc 2 1, 3) := by decide +kernel
theorem dX2_shiftAll_47 : decode cX2_shiftAll 47 = .ok (.goto (-21), 3) := by decide +kernel
theorem dX2_shiftAll_50 : decode cX2_shiftAll 50 = .ok (.iconst 1, 1) := by decide +kernel
theorem dX2_shiftAll_51 : decode cX2_shiftAll 51 = .ok (.ireturn, 1) := by decide +kernel
theorem dX2_bestShift_0 : decode cX2_bestShift 0 = .ok (.iconst 0, 1) := by decide +kernel
theorem dX2_bestShift_1 : decode cX2_bestShift 1 = .ok (.istore_n 1, 1) := by decide +kernel
theorem dX2_bestShift_2 : decode cX2_bestShift 2 = .ok (.aload_n 0, 1) := by decide +kernel
theorem dX2_bestShift_3 : decode cX2_bestShift 3 = .ok (.aload_n 0, 1) := by decide +kernel
theorem dX2_bestShift_4 : decode cX2_bestShift 4 = .ok (.invokevirtual 103, 3) := by decide +kernel
theorem dX2_bestShift_7 : decode cX2_bestShift 7 = .ok (.invokevirtual 134, 3) := by decide +kernel
theorem dX2_bestShift_10 : decode cX2_bestShift 10 = .ok (.invokestatic 137, 3) := by decide +kernel
theorem dX2_bestShift_13 : decode cX2_bestShift 13 = .ok (.istore_n 2, 1) := by decide +kernel
theorem dX2_bestShift_14 : decode cX2_bestShift 14 = .ok (.aload_n 0, 1) := by decide +kernel
theorem dX2_bestShift_15 : decode cX2_bestShift 15 = .ok (.getfield 27, 3) := by decide +kernel
theorem dX2_bestShift_18 : decode cX2_bestShift 18 = .ok (.iconst 0, 1) := by decide +kernel
theorem dX2_bestShift_19 : decode cX2_bestShift 19 = .ok (.iaload, 1) := by decide +kernel
theorem dX2_bestShift_20 : decode cX2_bestShift 20 = .ok (.ineg, 1) := by decide +kernel
theorem dX2_bestShift_21 : decode cX2_bestShift 21 = .ok (.istore_n 3, 1) := by decide +kernel
theorem dX2_bestShift_22 : decode cX2_bestShift 22 = .ok (.iload_n 3, 1) := by decide +kernel
theorem dX2_bestShift_23 : decode cX2_bestShift 23 = .ok (.aload_n 0, 1) := by decide +kernel
theorem dX2_bestShift_24 : decode cX2_bestShift 24 = .ok (.invokevirtual 131, 3) := by decide +kernel
theorem dX2_bestShift_27 : decode cX2_bestShift 27 = .ok (.iadd, 1) := by decide +kernel
theorem dX2_bestShift_28 : decode cX2_bestShift 28 = .ok (.bipush 20, 2) := by decide +kernel
theorem dX2_bestShift_30 : decode cX2_bestShift 30 = .ok (.if_icmp .ge 52, 3) := by decide +kernel
theorem dX2_bestShift_33 : decode cX2_bestShift 33 = .ok (.aload_n 0, 1) := by decide +kernel
theorem dX2_bestShift_34 : decode cX2_bestShift 34 = .ok (.aload_n 0, 1) := by decide +kernel
theorem dX2_bestShift_35 : decode cX2_bestShift 35 = .ok (.invokevirtual 103, 3) := by decide +kernel
theorem dX2_bestShift_38 : decode cX2_bestShift 38 = .ok (.iload_n 3, 1) := by decide +kernel
theorem dX2_bestShift_39 : decode cX2_bestShift 39 = .ok (.iadd, 1) := by decide +kernel
theorem dX2_bestShift_40 : decode cX2_bestShift 40 = .ok (.invokevirtual 134, 3) := by decide +kernel
theorem dX2_bestShift_43 : decode cX2_bestShift 43 = .ok (.invokestatic 137, 3) := by decide +kernel
theorem dX2_bestShift_46 : decode cX2_bestShift 46 = .ok (.istore 4, 2) := by decide +kernel
theorem dX2_bestShift_48 : decode cX2_bestShift 48 = .ok (.iload 4, 2) := by decide +kernel
theorem dX2_bestShift_50 : decode cX2_bestShift 50 = .ok (.iload_n 2, 1) := by decide +kernel
theorem dX2_bestShift_51 : decode cX2_bestShift 51 = .ok (.if_icmp .gt 20, 3) := by decide +kernel
theorem dX2_bestShift_54 : decode cX2_bestShift 54 = .ok (.iload 4, 2) := by decide +kernel
theorem dX2_bestShift_56 : decode cX2_bestShift 56 = .ok (.iload_n 2, 1) := by decide +kernel
theorem dX2_bestShift_57 : decode cX2_bestShift 57 = .ok (.if_icmp .ne 19, 3) := by decide +kernel
theorem dX2_bestShift_60 : decode cX2_bestShift 60 = .ok (.iload_n 3, 1) := by decide +kernel
theorem dX2_bestShift_61 : decode cX2_bestShift 61 = .ok (.invokestatic 83, 3) := by decide +kernel
theorem dX2_bestShift_64 : decode cX2_bestShift 64 = .ok (.iload_n 1, 1) := by decide +kernel
theorem dX2_bestShift_65 : decode cX2_bestShift 65 = .ok (.invokestatic 83, 3) := by decide +kernel
theorem dX2_bestShift_68 : decode cX2_bestShift 68 = .ok (.if_icmp .ge 8, 3) := by decide +kernel
theorem dX2_bestShift_71 : decode cX2_bestShift 71 = .ok (.iload 4, 2) := by decide +kernel
theorem dX2_bestShift_73 : decode cX2_bestShift 73 = .ok (.istore_n 2, 1) := by decide +kernel
theorem dX2_bestShift_74 : decode cX2_bestShift 74 = .ok (.iload_n 3, 1) := by decide +kernel
theorem dX2_bestShift_75 : decode cX2_bestShift 75 = .ok (.istore_n 1, 1) := by decide +kernel
theorem dX2_bestShift_76 : decode cX2_bestShift 76 = .ok (.iinc 3 1, 3) := by decide +kernel
theorem dX2_bestShift_79 : decode cX2_bestShift 79 = .ok (.goto (-57), 3) := by decide +kernel
theorem dX2_bestShift_82 : decode cX2_bestShift 82 = .ok (.iload_n 1, 1) := by decide +kernel
theorem dX2_bestShift_83 : decode cX2_bestShift 83 = .ok (.ireturn, 1) := by decide +kernel
theorem dX2_fewestHolders_0 : decode cX2_fewestHolders 0 = .ok (.iconst 1, 1) := by decide +kernel
theorem dX2_fewestHolders_1 : decode cX2_fewestHolders 1 = .ok (.aload_n 0, 1) := by decide +kernel
theorem dX2_fewestHolders_2 : decode cX2_fewestHolders 2 = .ok (.getfield 52, 3) := by decide +kernel
theorem dX2_fewestHolders_5 : decode cX2_fewestHolders 5 = .ok (.ishl, 1) := by decide +kernel
theorem dX2_fewestHolders_6 : decode cX2_fewestHolders 6 = .ok (.iconst 1, 1) := by decide +kernel
theorem dX2_fewestHolders_7 : decode cX2_fewestHolders 7 = .ok (.isub, 1) := by decide +kernel
theorem dX2_fewestHolders_8 : decode cX2_fewestHolders 8 = .ok (.istore_n 1, 1) := by decide +kernel
theorem dX2_fewestHolders_9 : decode cX2_fewestHolders 9 = .ok (.iload_n 1, 1) := by decide +kernel
theorem dX2_fewestHolders_10 : decode cX2_fewestHolders 10 = .ok (.istore_n 2, 1) := by decide +kernel
theorem dX2_fewestHolders_11 : decode cX2_fewestHolders 11 = .ok (.iconst 1, 1) := by decide +kernel
theorem dX2_fewestHolders_12 : decode cX2_fewestHolders 12 = .ok (.istore_n 3, 1) := by decide +kernel
theorem dX2_fewestHolders_13 : decode cX2_fewestHolders 13 = .ok (.iload_n 3, 1) := by decide +kernel
theorem dX2_fewestHolders_14 : decode cX2_fewestHolders 14 = .ok (.iload_n 1, 1) := by decide +kernel
theorem dX2_fewestHolders_15 : decode cX2_fewestHolders 15 = .ok (.if_icmp .ge 30, 3) := by decide +kernel
theorem dX2_fewestHolders_18 : decode cX2_fewestHolders 18 = .ok (.iload_n 3, 1) := by decide +kernel
theorem dX2_fewestHolders_19 : decode cX2_fewestHolders 19 = .ok (.invokestatic 137, 3) := by decide +kernel
theorem dX2_fewestHolders_22 : decode cX2_fewestHolders 22 = .ok (.iload_n 2, 1) := by decide +kernel
theorem dX2_fewestHolders_23 : decode cX2_fewestHolders 23 = .ok (.invokestatic 137, 3) := by decide +kernel
theorem dX2_fewestHolders_26 : decode cX2_fewestHolders 26 = .ok (.if_icmp .ge 13, 3) := by decide +kernel
theorem dX2_fewestHolders_29 : decode cX2_fewestHolders 29 = .ok (.aload_n 0, 1) := by decide +kernel
theorem dX2_fewestHolders_30 : decode cX2_fewestHolders 30 = .ok (.iload_n 3, 1) := by decide +kernel
theorem dX2_fewestHolders_31 : decode cX2_fewestHolders 31 = .ok (.invokevirtual 142, 3) := by decide +kernel
theorem dX2_fewestHolders_34 : decode cX2_fewestHolders 34 = .ok (.ifCond .eq 5, 3) := by decide +kernel
theorem dX2_fewestHolders_37 : decode cX2_fewestHolders 37 = .ok (.iload_n 3, 1) := by decide +kernel
theorem dX2_fewestHolders_38 : decode cX2_fewestHolders 38 = .ok (.istore_n 2, 1) := by decide +kernel
theorem dX2_fewestHolders_39 : decode cX2_fewestHolders 39 = .ok (.iinc 3 1, 3) := by decide +kernel
theorem dX2_fewestHolders_42 : decode cX2_fewestHolders 42 = .ok (.goto (-29), 3) := by decide +kernel
theorem dX2_fewestHolders_45 : decode cX2_fewestHolders 45 = .ok (.iload_n 2, 1) := by decide +kernel
theorem dX2_fewestHolders_46 : decode cX2_fewestHolders 46 = .ok (.ireturn, 1) := by decide +kernel
theorem dX2_doHold_0 : decode cX2_doHold 0 = .ok (.iload_n 1, 1) := by decide +kernel
theorem dX2_doHold_1 : decode cX2_doHold 1 = .ok (.iconst 0, 1) := by decide +kernel
theorem dX2_doHold_2 : decode cX2_doHold 2 = .ok (.invokestatic 75, 3) := by decide +kernel
theorem dX2_doHold_5 : decode cX2_doHold 5 = .ok (.ifCond .eq 16, 3) := by decide +kernel
theorem dX2_doHold_8 : decode cX2_doHold 8 = .ok (.iload_n 1, 1) := by decide +kernel
theorem dX2_doHold_9 : decode cX2_doHold 9 = .ok (.aload_n 0, 1) := by decide +kernel
theorem dX2_doHold_10 : decode cX2_doHold 10 = .ok (.getfield 52, 3) := by decide +kernel
theorem dX2_doHold_13 : decode cX2_doHold 13 = .ok (.iconst 1, 1) := by decide +kernel
theorem dX2_doHold_14 : decode cX2_doHold 14 = .ok (.isub, 1) := by decide +kernel
theorem dX2_doHold_15 : decode cX2_doHold 15 = .ok (.invokestatic 75, 3) := by decide +kernel
theorem dX2_doHold_18 : decode cX2_doHold 18 = .ok (.ifCond .ne 5, 3) := by decide +kernel
theorem dX2_doHold_21 : decode cX2_doHold 21 = .ok (.iconst 0, 1) := by decide +kernel
theorem dX2_doHold_22 : decode cX2_doHold 22 = .ok (.ireturn, 1) := by decide +kernel
theorem dX2_doHold_23 : decode cX2_doHold 23 = .ok (.iconst 0, 1) := by decide +kernel
theorem dX2_doHold_24 : decode cX2_doHold 24 = .ok (.istore_n 2, 1) := by decide +kernel
theorem dX2_doHold_25 : decode cX2_doHold 25 = .ok (.iconst 1, 1) := by decide +kernel
theorem dX2_doHold_26 : decode cX2_doHold 26 = .ok (.istore_n 3, 1) := by decide +kernel
theorem dX2_doHold_27 : decode cX2_doHold 27 = .ok (.iload_n 3, 1) := by decide +kernel
theorem dX2_doHold_28 : decode cX2_doHold 28 = .ok (.aload_n 0, 1) := by decide +kernel
theorem dX2_doHold_29 : decode cX2_doHold 29 = .ok (.getfield 52, 3) := by decide +kernel
theorem dX2_doHold_32 : decode cX2_doHold 32 = .ok (.if_icmp .ge 48, 3) := by decide +kernel
theorem dX2_doHold_35 : decode cX2_doHold 35 = .ok (.iload_n 1, 1) := by decide +kernel
theorem dX2_doHold_36 : decode cX2_doHold 36 = .ok (.iload_n 3, 1) := by decide +kernel
theorem dX2_doHold_37 : decode cX2_doHold 37 = .ok (.invokestatic 75, 3) := by decide +kernel
theorem dX2_doHold_40 : decode cX2_doHold 40 = .ok (.ifCond .eq 34, 3) := by decide +kernel
theorem dX2_doHold_43 : decode cX2_doHold 43 = .ok (.aload_n 0, 1) := by decide +kernel
theorem dX2_doHold_44 : decode cX2_doHold 44 = .ok (.getfield 27, 3) := by decide +kernel
theorem dX2_doHold_47 : decode cX2_doHold 47 = .ok (.iload_n 3, 1) := by decide +kernel
theorem dX2_doHold_48 : decode cX2_doHold 48 = .ok (.iaload, 1) := by decide +kernel
theorem dX2_doHold_49 : decode cX2_doHold 49 = .ok (.aload_n 0, 1) := by decide +kernel
theorem dX2_doHold_50 : decode cX2_doHold 50 = .ok (.getfield 27, 3) := by decide +kernel
theorem dX2_doHold_53 : decode cX2_doHold 53 = .ok (.iload_n 2, 1) := by decide +kernel
theorem dX2_doHold_54 : decode cX2_doHold 54 = .ok (.iaload, 1) := by decide +kernel
theorem dX2_doHold_55 : decode cX2_doHold 55 = .ok (.isub, 1) := by decide +kernel
theorem dX2_doHold_56 : decode cX2_doHold 56 = .ok (.aload_n 0, 1) := by decide +kernel
theorem dX2_doHold_57 : decode cX2_doHold 57 = .ok (.iload_n 2, 1) := by decide +kernel
theorem dX2_doHold_58 : decode cX2_doHold 58 = .ok (.aload_n 0, 1) := by decide +kernel
theorem dX2_doHold_59 : decode cX2_doHold 59 = .ok (.getfield 24, 3) := by decide +kernel
theorem dX2_doHold_62 : decode cX2_doHold 62 = .ok (.iload_n 3, 1) := by decide +kernel
theorem dX2_doHold_63 : decode cX2_doHold 63 = .ok (.iaload, 1) := by decide +kernel
theorem dX2_doHold_64 : decode cX2_doHold 64 = .ok (.invokevirtual 55, 3) := by decide +kernel
theorem dX2_doHold_67 : decode cX2_doHold 67 = .ok (.if_icmp .le 5, 3) := by decide +kernel
theorem dX2_doHold_70 : decode cX2_doHold 70 = .ok (.iconst 0, 1) := by decide +kernel
theorem dX2_doHold_71 : decode cX2_doHold 71 = .ok (.ireturn, 1) := by decide +kernel
theorem dX2_doHold_72 : decode cX2_doHold 72 = .ok (.iload_n 3, 1) := by decide +kernel
theorem dX2_doHold_73 : decode cX2_doHold 73 = .ok (.istore_n 2, 1) := by decide +kernel
theorem dX2_doHold_74 : decode cX2_doHold 74 = .ok (.iinc 3 1, 3) := by decide +kernel
theorem dX2_doHold_77 : decode cX2_doHold 77 = .ok (.goto (-50), 3) := by decide +kernel
theorem dX2_doHold_80 : decode cX2_doHold 80 = .ok (.iconst 1, 1) := by decide +kernel
theorem dX2_doHold_81 : decode cX2_doHold 81 = .ok (.ireturn, 1) := by decide +kernel
theorem dX2_howManyOfKind_0 : decode cX2_howManyOfKind 0 = .ok (.iconst 0, 1) := by decide +kernel
theorem dX2_howManyOfKind_1 : decode cX2_howManyOfKind 1 = .ok (.istore_n 2, 1) := by decide +kernel
theorem dX2_howManyOfKind_2 : decode cX2_howManyOfKind 2 = .ok (.iconst 0, 1) := by decide +kernel
theorem dX2_howManyOfKind_3 : decode cX2_howManyOfKind 3 = .ok (.istore_n 3, 1) := by decide +kernel
theorem dX2_howManyOfKind_4 : decode cX2_howManyOfKind 4 = .ok (.iload_n 3, 1) := by decide +kernel
theorem dX2_howManyOfKind_5 : decode cX2_howManyOfKind 5 = .ok (.aload_n 0, 1) := by decide +kernel
theorem dX2_howManyOfKind_6 : decode cX2_howManyOfKind 6 = .ok (.getfield 52, 3) := by decide +kernel
theorem dX2_howManyOfKind_9 : decode cX2_howManyOfKind 9 = .ok (.if_icmp .ge 26, 3) := by decide +kernel
theorem dX2_howManyOfKind_12 : decode cX2_howManyOfKind 12 = .ok (.iload_n 2, 1) := by decide +kernel
theorem dX2_howManyOfKind_13 : decode cX2_howManyOfKind 13 = .ok (.aload_n 0, 1) := by decide +kernel
theorem dX2_howManyOfKind_14 : decode cX2_howManyOfKind 14 = .ok (.iload_n 3, 1) := by decide +kernel
theorem dX2_howManyOfKind_15 : decode cX2_howManyOfKind 15 = .ok (.iload_n 1, 1) := by decide +kernel
theorem dX2_howManyOfKind_16 : decode cX2_howManyOfKind 16 = .ok (.invokevirtual 145, 3) := by decide +kernel
theorem dX2_howManyOfKind_19 : decode cX2_howManyOfKind 19 = .ok (.ifCond .eq 7, 3) := by decide +kernel
theorem dX2_howManyOfKind_22 : decode cX2_howManyOfKind 22 = .ok (.iconst 1, 1) := by decide +kernel
theorem dX2_howManyOfKind_23 : decode cX2_howManyOfKind 23 = .ok (.goto 4, 3) := by decide +kernel
theorem dX2_howManyOfKind_26 : decode cX2_howManyOfKind 26 = .ok (.iconst 0, 1) := by decide +kernel
theorem dX2_howManyOfKind_27 : decode cX2_howManyOfKind 27 = .ok (.iadd, 1) := by decide +kernel
theorem dX2_howManyOfKind_28 : decode cX2_howManyOfKind 28 = .ok (.istore_n 2, 1) := by decide +kernel
theorem dX2_howManyOfKind_29 : decode cX2_howManyOfKind 29 = .ok (.iinc 3 1, 3) := by decide +kernel
theorem dX2_howManyOfKind_32 : decode cX2_howManyOfKind 32 = .ok (.goto (-28), 3) := by decide +kernel
theorem dX2_howManyOfKind_35 : decode cX2_howManyOfKind 35 = .ok (.iload_n 2, 1) := by decide +kernel
theorem dX2_howManyOfKind_36 : decode cX2_howManyOfKind 36 = .ok (.ireturn, 1) := by decide +kernel
theorem dX2_howManyWant_0 : decode cX2_howManyWant 0 = .ok (.iconst 0, 1) := by decide +kernel
theorem dX2_howManyWant_1 : decode cX2_howManyWant 1 = .ok (.istore_n 1, 1) := by decide +kernel
theorem dX2_howManyWant_2 : decode cX2_howManyWant 2 = .ok (.iconst 0, 1) := by decide +kernel
theorem dX2_howManyWant_3 : decode cX2_howManyWant 3 = .ok (.istore_n 2, 1) := by decide +kernel
theorem dX2_howManyWant_4 : decode cX2_howManyWant 4 = .ok (.iload_n 2, 1) := by decide +kernel
theorem dX2_howManyWant_5 : decode cX2_howManyWant 5 = .ok (.aload_n 0, 1) := by decide +kernel
theorem dX2_howManyWant_6 : decode cX2_howManyWant 6 = .ok (.getfield 52, 3) := by decide +kernel
theorem dX2_howManyWant_9 : decode cX2_howManyWant 9 = .ok (.if_icmp .ge 27, 3) := by decide +kernel
theorem dX2_howManyWant_12 : decode cX2_howManyWant 12 = .ok (.iload_n 1, 1) := by decide +kernel
theorem dX2_howManyWant_13 : decode cX2_howManyWant 13 = .ok (.aload_n 0, 1) := by decide +kernel
theorem dX2_howManyWant_14 : decode cX2_howManyWant 14 = .ok (.getfield 30, 3) := by decide +kernel
theorem dX2_howManyWant_17 : decode cX2_howManyWant 17 = .ok (.iload_n 2, 1) := by decide +kernel
theorem dX2_howManyWant_18 : decode cX2_howManyWant 18 = .ok (.iaload, 1) := by decide +kernel
theorem dX2_howManyWant_19 : decode cX2_howManyWant 19 = .ok (.iconst 4, 1) := by decide +kernel
theorem dX2_howManyWant_20 : decode cX2_howManyWant 20 = .ok (.if_icmp .eq 7, 3) := by decide +kernel
theorem dX2_howManyWant_23 : decode cX2_howManyWant 23 = .ok (.iconst 1, 1) := by decide +kernel
theorem dX2_howManyWant_24 : decode cX2_howManyWant 24 = .ok (.goto 4, 3) := by decide +kernel
theorem dX2_howManyWant_27 : decode cX2_howManyWant 27 = .ok (.iconst 0, 1) := by decide +kernel
theorem dX2_howManyWant_28 : decode cX2_howManyWant 28 = .ok (.iadd, 1) := by decide +kernel
theorem dX2_howManyWant_29 : decode cX2_howManyWant 29 = .ok (.istore_n 1, 1) := by decide +kernel
theorem dX2_howManyWant_30 : decode cX2_howManyWant 30 = .ok (.iinc 2 1, 3) := by decide +kernel
theorem dX2_howManyWant_33 : decode cX2_howManyWant 33 = .ok (.goto (-29), 3) := by decide +kernel
theorem dX2_howManyWant_36 : decode cX2_howManyWant 36 = .ok (.iload_n 1, 1) := by decide +kernel
theorem dX2_howManyWant_37 : decode cX2_howManyWant 37 = .ok (.ireturn, 1) := by decide +kernel
theorem dX2_paidByAll_0 : decode cX2_paidByAll 0 = .ok (.iconst 0, 1) := by decide +kernel
theorem dX2_paidByAll_1 : decode cX2_paidByAll 1 = .ok (.istore_n 1, 1) := by decide +kernel
theorem dX2_paidByAll_2 : decode cX2_paidByAll 2 = .ok (.iconst 0, 1) := by decide +kernel
theorem dX2_paidByAll_3 : decode cX2_paidByAll 3 = .ok (.istore_n 2, 1) := by decide +kernel
theorem dX2_paidByAll_4 : decode cX2_paidByAll 4 = .ok (.iload_n 2, 1) := by decide +kernel
theorem dX2_paidByAll_5 : decode cX2_paidByAll 5 = .ok (.aload_n 0, 1) := by decide +kernel
theorem dX2_paidByAll_6 : decode cX2_paidByAll 6 = .ok (.getfield 52, 3) := by decide +kernel
end
section
theorem dX2_paidByAll_9 : decode cX2_paidByAll 9 = .ok (.if_icmp .ge 18, 3) := by decide +kernel
theorem dX2_paidByAll_12 : decode cX2_paidByAll 12 = .ok (.iload_n 1, 1) := by decide +kernel
theorem dX2_paidByAll_13 : decode cX2_paidByAll 13 = .ok (.aload_n 0, 1) := by decide +kernel
theorem dX2_paidByAll_14 : decode cX2_paidByAll 14 = .ok (.getfield 33, 3) := by decide +kernel
theorem dX2_paidByAll_17 : decode cX2_paidByAll 17 = .ok (.iload_n 2, 1) := by decide +kernel
theorem dX2_paidByAll_18 : decode cX2_paidByAll 18 = .ok (.iaload, 1) := by decide +kernel
theorem dX2_paidByAll_19 : decode cX2_paidByAll 19 = .ok (.iadd, 1) := by decide +kernel
theorem dX2_paidByAll_20 : decode cX2_paidByAll 20 = .ok (.istore_n 1, 1) := by decide +kernel
theorem dX2_paidByAll_21 : decode cX2_paidByAll 21 = .ok (.iinc 2 1, 3) := by decide +kernel
theorem dX2_paidByAll_24 : decode cX2_paidByAll 24 = .ok (.goto (-20), 3) := by decide +kernel
theorem dX2_paidByAll_27 : decode cX2_paidByAll 27 = .ok (.iload_n 1, 1) := by decide +kernel
theorem dX2_paidByAll_28 : decode cX2_paidByAll 28 = .ok (.ireturn, 1) := by decide +kernel
theorem dX2_pricesOfAll_0 : decode cX2_pricesOfAll 0 = .ok (.iconst 0, 1) := by decide +kernel
theorem dX2_pricesOfAll_1 : decode cX2_pricesOfAll 1 = .ok (.istore_n 1, 1) := by decide +kernel
theorem dX2_pricesOfAll_2 : decode cX2_pricesOfAll 2 = .ok (.iconst 0, 1) := by decide +kernel
theorem dX2_pricesOfAll_3 : decode cX2_pricesOfAll 3 = .ok (.istore_n 2, 1) := by decide +kernel
theorem dX2_pricesOfAll_4 : decode cX2_pricesOfAll 4 = .ok (.iload_n 2, 1) := by decide +kernel
theorem dX2_pricesOfAll_5 : decode cX2_pricesOfAll 5 = .ok (.aload_n 0, 1) := by decide +kernel
theorem dX2_pricesOfAll_6 : decode cX2_pricesOfAll 6 = .ok (.getfield 49, 3) := by decide +kernel
theorem dX2_pricesOfAll_9 : decode cX2_pricesOfAll 9 = .ok (.if_icmp .ge 18, 3) := by decide +kernel
theorem dX2_pricesOfAll_12 : decode cX2_pricesOfAll 12 = .ok (.iload_n 1, 1) := by decide +kernel
theorem dX2_pricesOfAll_13 : decode cX2_pricesOfAll 13 = .ok (.aload_n 0, 1) := by decide +kernel
theorem dX2_pricesOfAll_14 : decode cX2_pricesOfAll 14 = .ok (.getfield 18, 3) := by decide +kernel
theorem dX2_pricesOfAll_17 : decode cX2_pricesOfAll 17 = .ok (.iload_n 2, 1) := by decide +kernel
theorem dX2_pricesOfAll_18 : decode cX2_pricesOfAll 18 = .ok (.iaload, 1) := by decide +kernel
theorem dX2_pricesOfAll_19 : decode cX2_pricesOfAll 19 = .ok (.iadd, 1) := by decide +kernel
theorem dX2_pricesOfAll_20 : decode cX2_pricesOfAll 20 = .ok (.istore_n 1, 1) := by decide +kernel
theorem dX2_pricesOfAll_21 : decode cX2_pricesOfAll 21 = .ok (.iinc 2 1, 3) := by decide +kernel
theorem dX2_pricesOfAll_24 : decode cX2_pricesOfAll 24 = .ok (.goto (-20), 3) := by decide +kernel
theorem dX2_pricesOfAll_27 : decode cX2_pricesOfAll 27 = .ok (.iload_n 1, 1) := by decide +kernel
theorem dX2_pricesOfAll_28 : decode cX2_pricesOfAll 28 = .ok (.ireturn, 1) := by decide +kernel
theorem dX2_factOfBuyer_0 : decode cX2_factOfBuyer 0 = .ok (.iload_n 2, 1) := by decide +kernel
theorem dX2_factOfBuyer_1 : decode cX2_factOfBuyer 1 = .ok (.tableswitch 63 0 2 #[27, 34, 41], 27) := by decide +kernel
theorem dX2_factOfBuyer_28 : decode cX2_factOfBuyer 28 = .ok (.aload_n 0, 1) := by decide +kernel
theorem dX2_factOfBuyer_29 : decode cX2_factOfBuyer 29 = .ok (.getfield 24, 3) := by decide +kernel
theorem dX2_factOfBuyer_32 : decode cX2_factOfBuyer 32 = .ok (.iload_n 1, 1) := by decide +kernel
theorem dX2_factOfBuyer_33 : decode cX2_factOfBuyer 33 = .ok (.iaload, 1) := by decide +kernel
theorem dX2_factOfBuyer_34 : decode cX2_factOfBuyer 34 = .ok (.ireturn, 1) := by decide +kernel
theorem dX2_factOfBuyer_35 : decode cX2_factOfBuyer 35 = .ok (.aload_n 0, 1) := by decide +kernel
theorem dX2_factOfBuyer_36 : decode cX2_factOfBuyer 36 = .ok (.getfield 27, 3) := by decide +kernel
theorem dX2_factOfBuyer_39 : decode cX2_factOfBuyer 39 = .ok (.iload_n 1, 1) := by decide +kernel
theorem dX2_factOfBuyer_40 : decode cX2_factOfBuyer 40 = .ok (.iaload, 1) := by decide +kernel
theorem dX2_factOfBuyer_41 : decode cX2_factOfBuyer 41 = .ok (.ireturn, 1) := by decide +kernel
theorem dX2_factOfBuyer_42 : decode cX2_factOfBuyer 42 = .ok (.aload_n 0, 1) := by decide +kernel
theorem dX2_factOfBuyer_43 : decode cX2_factOfBuyer 43 = .ok (.getfield 30, 3) := by decide +kernel
theorem dX2_factOfBuyer_46 : decode cX2_factOfBuyer 46 = .ok (.iload_n 1, 1) := by decide +kernel
theorem dX2_factOfBuyer_47 : decode cX2_factOfBuyer 47 = .ok (.iaload, 1) := by decide +kernel
theorem dX2_factOfBuyer_48 : decode cX2_factOfBuyer 48 = .ok (.iconst 4, 1) := by decide +kernel
theorem dX2_factOfBuyer_49 : decode cX2_factOfBuyer 49 = .ok (.if_icmp .ne 8, 3) := by decide +kernel
theorem dX2_factOfBuyer_52 : decode cX2_factOfBuyer 52 = .ok (.bipush (-9), 2) := by decide +kernel
theorem dX2_factOfBuyer_54 : decode cX2_factOfBuyer 54 = .ok (.goto 9, 3) := by decide +kernel
theorem dX2_factOfBuyer_57 : decode cX2_factOfBuyer 57 = .ok (.aload_n 0, 1) := by decide +kernel
theorem dX2_factOfBuyer_58 : decode cX2_factOfBuyer 58 = .ok (.getfield 30, 3) := by decide +kernel
theorem dX2_factOfBuyer_61 : decode cX2_factOfBuyer 61 = .ok (.iload_n 1, 1) := by decide +kernel
theorem dX2_factOfBuyer_62 : decode cX2_factOfBuyer 62 = .ok (.iaload, 1) := by decide +kernel
theorem dX2_factOfBuyer_63 : decode cX2_factOfBuyer 63 = .ok (.ireturn, 1) := by decide +kernel
theorem dX2_factOfBuyer_64 : decode cX2_factOfBuyer 64 = .ok (.aload_n 0, 1) := by decide +kernel
theorem dX2_factOfBuyer_65 : decode cX2_factOfBuyer 65 = .ok (.getfield 33, 3) := by decide +kernel
theorem dX2_factOfBuyer_68 : decode cX2_factOfBuyer 68 = .ok (.iload_n 1, 1) := by decide +kernel
theorem dX2_factOfBuyer_69 : decode cX2_factOfBuyer 69 = .ok (.iaload, 1) := by decide +kernel
theorem dX2_factOfBuyer_70 : decode cX2_factOfBuyer 70 = .ok (.ireturn, 1) := by decide +kernel
theorem dX2_factOfStall_0 : decode cX2_factOfStall 0 = .ok (.iload_n 2, 1) := by decide +kernel
theorem dX2_factOfStall_1 : decode cX2_factOfStall 1 = .ok (.tableswitch 48 0 2 #[27, 34, 41], 27) := by decide +kernel
theorem dX2_factOfStall_28 : decode cX2_factOfStall 28 = .ok (.aload_n 0, 1) := by decide +kernel
theorem dX2_factOfStall_29 : decode cX2_factOfStall 29 = .ok (.getfield 9, 3) := by decide +kernel
theorem dX2_factOfStall_32 : decode cX2_factOfStall 32 = .ok (.iload_n 1, 1) := by decide +kernel
theorem dX2_factOfStall_33 : decode cX2_factOfStall 33 = .ok (.iaload, 1) := by decide +kernel
theorem dX2_factOfStall_34 : decode cX2_factOfStall 34 = .ok (.ireturn, 1) := by decide +kernel
theorem dX2_factOfStall_35 : decode cX2_factOfStall 35 = .ok (.aload_n 0, 1) := by decide +kernel
theorem dX2_factOfStall_36 : decode cX2_factOfStall 36 = .ok (.getfield 15, 3) := by decide +kernel
theorem dX2_factOfStall_39 : decode cX2_factOfStall 39 = .ok (.iload_n 1, 1) := by decide +kernel
theorem dX2_factOfStall_40 : decode cX2_factOfStall 40 = .ok (.iaload, 1) := by decide +kernel
theorem dX2_factOfStall_41 : decode cX2_factOfStall 41 = .ok (.ireturn, 1) := by decide +kernel
theorem dX2_factOfStall_42 : decode cX2_factOfStall 42 = .ok (.aload_n 0, 1) := by decide +kernel
theorem dX2_factOfStall_43 : decode cX2_factOfStall 43 = .ok (.getfield 18, 3) := by decide +kernel
theorem dX2_factOfStall_46 : decode cX2_factOfStall 46 = .ok (.iload_n 1, 1) := by decide +kernel
theorem dX2_factOfStall_47 : decode cX2_factOfStall 47 = .ok (.iaload, 1) := by decide +kernel
theorem dX2_factOfStall_48 : decode cX2_factOfStall 48 = .ok (.ireturn, 1) := by decide +kernel
theorem dX2_factOfStall_49 : decode cX2_factOfStall 49 = .ok (.aload_n 0, 1) := by decide +kernel
theorem dX2_factOfStall_50 : decode cX2_factOfStall 50 = .ok (.getfield 21, 3) := by decide +kernel
theorem dX2_factOfStall_53 : decode cX2_factOfStall 53 = .ok (.iload_n 1, 1) := by decide +kernel
theorem dX2_factOfStall_54 : decode cX2_factOfStall 54 = .ok (.iaload, 1) := by decide +kernel
theorem dX2_factOfStall_55 : decode cX2_factOfStall 55 = .ok (.ireturn, 1) := by decide +kernel
theorem dX2_spotsAndWants_0 : decode cX2_spotsAndWants 0 = .ok (.lconst 0, 1) := by decide +kernel
theorem dX2_spotsAndWants_1 : decode cX2_spotsAndWants 1 = .ok (.lstore_n 1, 1) := by decide +kernel
theorem dX2_spotsAndWants_2 : decode cX2_spotsAndWants 2 = .ok (.iconst 0, 1) := by decide +kernel
theorem dX2_spotsAndWants_3 : decode cX2_spotsAndWants 3 = .ok (.istore_n 3, 1) := by decide +kernel
theorem dX2_spotsAndWants_4 : decode cX2_spotsAndWants 4 = .ok (.iload_n 3, 1) := by decide +kernel
theorem dX2_spotsAndWants_5 : decode cX2_spotsAndWants 5 = .ok (.aload_n 0, 1) := by decide +kernel
theorem dX2_spotsAndWants_6 : decode cX2_spotsAndWants 6 = .ok (.getfield 52, 3) := by decide +kernel
theorem dX2_spotsAndWants_9 : decode cX2_spotsAndWants 9 = .ok (.if_icmp .ge 35, 3) := by decide +kernel
theorem dX2_spotsAndWants_12 : decode cX2_spotsAndWants 12 = .ok (.lload_n 1, 1) := by decide +kernel
theorem dX2_spotsAndWants_13 : decode cX2_spotsAndWants 13 = .ok (.ldc2_w 148, 3) := by decide +kernel
theorem dX2_spotsAndWants_16 : decode cX2_spotsAndWants 16 = .ok (.lmul, 1) := by decide +kernel
theorem dX2_spotsAndWants_17 : decode cX2_spotsAndWants 17 = .ok (.aload_n 0, 1) := by decide +kernel
theorem dX2_spotsAndWants_18 : decode cX2_spotsAndWants 18 = .ok (.getfield 27, 3) := by decide +kernel
theorem dX2_spotsAndWants_21 : decode cX2_spotsAndWants 21 = .ok (.iload_n 3, 1) := by decide +kernel
theorem dX2_spotsAndWants_22 : decode cX2_spotsAndWants 22 = .ok (.iaload, 1) := by decide +kernel
theorem dX2_spotsAndWants_23 : decode cX2_spotsAndWants 23 = .ok (.i2l, 1) := by decide +kernel
theorem dX2_spotsAndWants_24 : decode cX2_spotsAndWants 24 = .ok (.ladd, 1) := by decide +kernel
theorem dX2_spotsAndWants_25 : decode cX2_spotsAndWants 25 = .ok (.ldc2_w 150, 3) := by decide +kernel
theorem dX2_spotsAndWants_28 : decode cX2_spotsAndWants 28 = .ok (.lmul, 1) := by decide +kernel
theorem dX2_spotsAndWants_29 : decode cX2_spotsAndWants 29 = .ok (.aload_n 0, 1) := by decide +kernel
theorem dX2_spotsAndWants_30 : decode cX2_spotsAndWants 30 = .ok (.getfield 30, 3) := by decide +kernel
theorem dX2_spotsAndWants_33 : decode cX2_spotsAndWants 33 = .ok (.iload_n 3, 1) := by decide +kernel
theorem dX2_spotsAndWants_34 : decode cX2_spotsAndWants 34 = .ok (.iaload, 1) := by decide +kernel
theorem dX2_spotsAndWants_35 : decode cX2_spotsAndWants 35 = .ok (.i2l, 1) := by decide +kernel
theorem dX2_spotsAndWants_36 : decode cX2_spotsAndWants 36 = .ok (.ladd, 1) := by decide +kernel
theorem dX2_spotsAndWants_37 : decode cX2_spotsAndWants 37 = .ok (.lstore_n 1, 1) := by decide +kernel
theorem dX2_spotsAndWants_38 : decode cX2_spotsAndWants 38 = .ok (.iinc 3 1, 3) := by decide +kernel
theorem dX2_spotsAndWants_41 : decode cX2_spotsAndWants 41 = .ok (.goto (-37), 3) := by decide +kernel
theorem dX2_spotsAndWants_44 : decode cX2_spotsAndWants 44 = .ok (.lload_n 1, 1) := by decide +kernel
theorem dX2_spotsAndWants_45 : decode cX2_spotsAndWants 45 = .ok (.lreturn, 1) := by decide +kernel
theorem dX2_digestOn_0 : decode cX2_digestOn 0 = .ok (.iconst 0, 1) := by decide +kernel
theorem dX2_digestOn_1 : decode cX2_digestOn 1 = .ok (.istore_n 3, 1) := by decide +kernel
theorem dX2_digestOn_2 : decode cX2_digestOn 2 = .ok (.iload_n 3, 1) := by decide +kernel
theorem dX2_digestOn_3 : decode cX2_digestOn 3 = .ok (.aload_n 0, 1) := by decide +kernel
theorem dX2_digestOn_4 : decode cX2_digestOn 4 = .ok (.getfield 52, 3) := by decide +kernel
theorem dX2_digestOn_7 : decode cX2_digestOn 7 = .ok (.if_icmp .ge 39, 3) := by decide +kernel
theorem dX2_digestOn_10 : decode cX2_digestOn 10 = .ok (.iconst 0, 1) := by decide +kernel
theorem dX2_digestOn_11 : decode cX2_digestOn 11 = .ok (.istore 4, 2) := by decide +kernel
theorem dX2_digestOn_13 : decode cX2_digestOn 13 = .ok (.iload 4, 2) := by decide +kernel
theorem dX2_digestOn_15 : decode cX2_digestOn 15 = .ok (.iconst 4, 1) := by decide +kernel
theorem dX2_digestOn_16 : decode cX2_digestOn 16 = .ok (.if_icmp .ge 24, 3) := by decide +kernel
theorem dX2_digestOn_19 : decode cX2_digestOn 19 = .ok (.ldc2_w 152, 3) := by decide +kernel
theorem dX2_digestOn_22 : decode cX2_digestOn 22 = .ok (.lload_n 1, 1) := by decide +kernel
theorem dX2_digestOn_23 : decode cX2_digestOn 23 = .ok (.lmul, 1) := by decide +kernel
theorem dX2_digestOn_24 : decode cX2_digestOn 24 = .ok (.aload_n 0, 1) := by decide +kernel
theorem dX2_digestOn_25 : decode cX2_digestOn 25 = .ok (.iload_n 3, 1) := by decide +kernel
theorem dX2_digestOn_26 : decode cX2_digestOn 26 = .ok (.iload 4, 2) := by decide +kernel
theorem dX2_digestOn_28 : decode cX2_digestOn 28 = .ok (.invokevirtual 154, 3) := by decide +kernel
theorem dX2_digestOn_31 : decode cX2_digestOn 31 = .ok (.i2l, 1) := by decide +kernel
theorem dX2_digestOn_32 : decode cX2_digestOn 32 = .ok (.ladd, 1) := by decide +kernel
theorem dX2_digestOn_33 : decode cX2_digestOn 33 = .ok (.lstore_n 1, 1) := by decide +kernel
theorem dX2_digestOn_34 : decode cX2_digestOn 34 = .ok (.iinc 4 1, 3) := by decide +kernel
theorem dX2_digestOn_37 : decode cX2_digestOn 37 = .ok (.goto (-24), 3) := by decide +kernel
theorem dX2_digestOn_40 : decode cX2_digestOn 40 = .ok (.iinc 3 1, 3) := by decide +kernel
theorem dX2_digestOn_43 : decode cX2_digestOn 43 = .ok (.goto (-41), 3) := by decide +kernel
theorem dX2_digestOn_46 : decode cX2_digestOn 46 = .ok (.iconst 0, 1) := by decide +kernel
theorem dX2_digestOn_47 : decode cX2_digestOn 47 = .ok (.istore_n 3, 1) := by decide +kernel
theorem dX2_digestOn_48 : decode cX2_digestOn 48 = .ok (.iload_n 3, 1) := by decide +kernel
theorem dX2_digestOn_49 : decode cX2_digestOn 49 = .ok (.aload_n 0, 1) := by decide +kernel
theorem dX2_digestOn_50 : decode cX2_digestOn 50 = .ok (.getfield 49, 3) := by decide +kernel
theorem dX2_digestOn_53 : decode cX2_digestOn 53 = .ok (.if_icmp .ge 39, 3) := by decide +kernel
theorem dX2_digestOn_56 : decode cX2_digestOn 56 = .ok (.iconst 0, 1) := by decide +kernel
theorem dX2_digestOn_57 : decode cX2_digestOn 57 = .ok (.istore 4, 2) := by decide +kernel
theorem dX2_digestOn_59 : decode cX2_digestOn 59 = .ok (.iload 4, 2) := by decide +kernel
theorem dX2_digestOn_61 : decode cX2_digestOn 61 = .ok (.iconst 4, 1) := by decide +kernel
theorem dX2_digestOn_62 : decode cX2_digestOn 62 = .ok (.if_icmp .ge 24, 3) := by decide +kernel
theorem dX2_digestOn_65 : decode cX2_digestOn 65 = .ok (.ldc2_w 152, 3) := by decide +kernel
theorem dX2_digestOn_68 : decode cX2_digestOn 68 = .ok (.lload_n 1, 1) := by decide +kernel
theorem dX2_digestOn_69 : decode cX2_digestOn 69 = .ok (.lmul, 1) := by decide +kernel
theorem dX2_digestOn_70 : decode cX2_digestOn 70 = .ok (.aload_n 0, 1) := by decide +kernel
theorem dX2_digestOn_71 : decode cX2_digestOn 71 = .ok (.iload_n 3, 1) := by decide +kernel
theorem dX2_digestOn_72 : decode cX2_digestOn 72 = .ok (.iload 4, 2) := by decide +kernel
theorem dX2_digestOn_74 : decode cX2_digestOn 74 = .ok (.invokevirtual 157, 3) := by decide +kernel
theorem dX2_digestOn_77 : decode cX2_digestOn 77 = .ok (.i2l, 1) := by decide +kernel
theorem dX2_digestOn_78 : decode cX2_digestOn 78 = .ok (.ladd, 1) := by decide +kernel
theorem dX2_digestOn_79 : decode cX2_digestOn 79 = .ok (.lstore_n 1, 1) := by decide +kernel
theorem dX2_digestOn_80 : decode cX2_digestOn 80 = .ok (.iinc 4 1, 3) := by decide +kernel
theorem dX2_digestOn_83 : decode cX2_digestOn 83 = .ok (.goto (-24), 3) := by decide +kernel
theorem dX2_digestOn_86 : decode cX2_digestOn 86 = .ok (.iinc 3 1, 3) := by decide +kernel
theorem dX2_digestOn_89 : decode cX2_digestOn 89 = .ok (.goto (-41), 3) := by decide +kernel
theorem dX2_digestOn_92 : decode cX2_digestOn 92 = .ok (.lload_n 1, 1) := by decide +kernel
theorem dX2_digestOn_93 : decode cX2_digestOn 93 = .ok (.lreturn, 1) := by decide +kernel
theorem dX3_init_0 : decode cX3_init 0 = .ok (.aload_n 0, 1) := by decide +kernel
theorem dX3_init_1 : decode cX3_init 1 = .ok (.invokespecial 3, 3) := by decide +kernel
theorem dX3_init_4 : decode cX3_init 4 = .ok (.aload_n 0, 1) := by decide +kernel
theorem dX3_init_5 : decode cX3_init 5 = .ok (.new 9, 3) := by decide +kernel
theorem dX3_init_8 : decode cX3_init 8 = .ok (.dup, 1) := by decide +kernel
theorem dX3_init_9 : decode cX3_init 9 = .ok (.invokespecial 11, 3) := by decide +kernel
theorem dX3_init_12 : decode cX3_init 12 = .ok (.putfield 12, 3) := by decide +kernel
theorem dX3_init_15 : decode cX3_init 15 = .ok (.aload_n 0, 1) := by decide +kernel
theorem dX3_init_16 : decode cX3_init 16 = .ok (.new 18, 3) := by decide +kernel
theorem dX3_init_19 : decode cX3_init 19 = .ok (.dup, 1) := by decide +kernel
theorem dX3_init_20 : decode cX3_init 20 = .ok (.iconst 0, 1) := by decide +kernel
theorem dX3_init_21 : decode cX3_init 21 = .ok (.invokespecial 20, 3) := by decide +kernel
theorem dX3_init_24 : decode cX3_init 24 = .ok (.putfield 23, 3) := by decide +kernel
theorem dX3_init_27 : decode cX3_init 27 = .ok (.return_, 1) := by decide +kernel
theorem dX3_read_0 : decode cX3_read 0 = .ok (.aload_n 0, 1) := by decide +kernel
theorem dX3_read_1 : decode cX3_read 1 = .ok (.aload_n 1, 1) := by decide +kernel
theorem dX3_read_2 : decode cX3_read 2 = .ok (.putfield 23, 3) := by decide +kernel
theorem dX3_read_5 : decode cX3_read 5 = .ok (.aload_n 0, 1) := by decide +kernel
theorem dX3_read_6 : decode cX3_read 6 = .ok (.iconst 0, 1) := by decide +kernel
theorem dX3_read_7 : decode cX3_read 7 = .ok (.putfield 27, 3) := by decide +kernel
theorem dX3_read_10 : decode cX3_read 10 = .ok (.aload_n 0, 1) := by decide +kernel
theorem dX3_read_11 : decode cX3_read 11 = .ok (.bipush (-9), 2) := by decide +kernel
theorem dX3_read_13 : decode cX3_read 13 = .ok (.putfield 31, 3) := by decide +kernel
theorem dX3_read_16 : decode cX3_read 16 = .ok (.aload_n 0, 1) := by decide +kernel
theorem dX3_read_17 : decode cX3_read 17 = .ok (.getfield 12, 3) := by decide +kernel
theorem dX3_read_20 : decode cX3_read 20 = .ok (.invokevirtual 34, 3) := by decide +kernel
theorem dX3_read_23 : decode cX3_read 23 = .ok (.aload_n 0, 1) := by decide +kernel
theorem dX3_read_24 : decode cX3_read 24 = .ok (.invokevirtual 37, 3) := by decide +kernel
theorem dX3_read_27 : decode cX3_read 27 = .ok (.aload_n 0, 1) := by decide +kernel
theorem dX3_read_28 : decode cX3_read 28 = .ok (.bipush 103, 2) := by decide +kernel
theorem dX3_read_30 : decode cX3_read 30 = .ok (.bipush 103, 2) := by decide +kernel
theorem dX3_read_32 : decode cX3_read 32 = .ok (.invokevirtual 40, 3) := by decide +kernel
theorem dX3_read_35 : decode cX3_read 35 = .ok (.pop, 1) := by decide +kernel
theorem dX3_read_36 : decode cX3_read 36 = .ok (.aload_n 0, 1) := by decide +kernel
theorem dX3_read_37 : decode cX3_read 37 = .ok (.getfield 12, 3) := by decide +kernel
theorem dX3_read_40 : decode cX3_read 40 = .ok (.iconst 1, 1) := by decide +kernel
theorem dX3_read_41 : decode cX3_read 41 = .ok (.aload_n 0, 1) := by decide +kernel
theorem dX3_read_42 : decode cX3_read 42 = .ok (.bipush 49, 2) := by decide +kernel
theorem dX3_read_44 : decode cX3_read 44 = .ok (.bipush 52, 2) := by decide +kernel
theorem dX3_read_46 : decode cX3_read 46 = .ok (.invokevirtual 40, 3) := by decide +kernel
theorem dX3_read_49 : decode cX3_read 49 = .ok (.iadd, 1) := by decide +kernel
theorem dX3_read_50 : decode cX3_read 50 = .ok (.putfield 44, 3) := by decide +kernel
theorem dX3_read_53 : decode cX3_read 53 = .ok (.aload_n 0, 1) := by decide +kernel
theorem dX3_read_54 : decode cX3_read 54 = .ok (.invokevirtual 37, 3) := by decide +kernel
theorem dX3_read_57 : decode cX3_read 57 = .ok (.iconst 0, 1) := by decide +kernel
theorem dX3_read_58 : decode cX3_read 58 = .ok (.istore_n 2, 1) := by decide +kernel
theorem dX3_read_59 : decode cX3_read 59 = .ok (.iload_n 2, 1) := by decide +kernel
theorem dX3_read_60 : decode cX3_read 60 = .ok (.bipush 80, 2) := by decide +kernel
theorem dX3_read_62 : decode cX3_read 62 = .ok (.if_icmp .ge 40, 3) := by decide +kernel
theorem dX3_read_65 : decode cX3_read 65 = .ok (.aload_n 0, 1) := by decide +kernel
theorem dX3_read_66 : decode cX3_read 66 = .ok (.getfield 31, 3) := by decide +kernel
theorem dX3_read_69 : decode cX3_read 69 = .ok (.bipush (-9), 2) := by decide +kernel
theorem dX3_read_71 : decode cX3_read 71 = .ok (.if_icmp .ne 31, 3) := by decide +kernel
theorem dX3_read_74 : decode cX3_read 74 = .ok (.aload_n 0, 1) := by decide +kernel
theorem dX3_read_75 : decode cX3_read 75 = .ok (.getfield 23, 3) := by decide +kernel
theorem dX3_read_78 : decode cX3_read 78 = .ok (.aload_n 0, 1) := by decide +kernel
theorem dX3_read_79 : decode cX3_read 79 = .ok (.getfield 27, 3) := by decide +kernel
theorem dX3_read_82 : decode cX3_read 82 = .ok (.invokevirtual 47, 3) := by decide +kernel
theorem dX3_read_85 : decode cX3_read 85 = .ok (.ifCond .eq 17, 3) := by decide +kernel
theorem dX3_read_88 : decode cX3_read 88 = .ok (.aload_n 0, 1) := by decide +kernel
theorem dX3_read_89 : decode cX3_read 89 = .ok (.invokevirtual 51, 3) := by decide +kernel
theorem dX3_read_92 : decode cX3_read 92 = .ok (.aload_n 0, 1) := by decide +kernel
theorem dX3_read_93 : decode cX3_read 93 = .ok (.invokevirtual 37, 3) := by decide +kernel
theorem dX3_read_96 : decode cX3_read 96 = .ok (.iinc 2 1, 3) := by decide +kernel
theorem dX3_read_99 : decode cX3_read 99 = .ok (.goto (-40), 3) := by decide +kernel
theorem dX3_read_102 : decode cX3_read 102 = .ok (.aload_n 0, 1) := by decide +kernel
theorem dX3_read_103 : decode cX3_read 103 = .ok (.getfield 31, 3) := by decide +kernel
theorem dX3_read_106 : decode cX3_read 106 = .ok (.ireturn, 1) := by decide +kernel
theorem dX3_skipBlanks_0 : decode cX3_skipBlanks 0 = .ok (.iconst 0, 1) := by decide +kernel
theorem dX3_skipBlanks_1 : decode cX3_skipBlanks 1 = .ok (.istore_n 1, 1) := by decide +kernel
theorem dX3_skipBlanks_2 : decode cX3_skipBlanks 2 = .ok (.iload_n 1, 1) := by decide +kernel
theorem dX3_skipBlanks_3 : decode cX3_skipBlanks 3 = .ok (.bipush 80, 2) := by decide +kernel
theorem dX3_skipBlanks_5 : decode cX3_skipBlanks 5 = .ok (.if_icmp .ge 35, 3) := by decide +kernel
theorem dX3_skipBlanks_8 : decode cX3_skipBlanks 8 = .ok (.aload_n 0, 1) := by decide +kernel
theorem dX3_skipBlanks_9 : decode cX3_skipBlanks 9 = .ok (.getfield 23, 3) := by decide +kernel
theorem dX3_skipBlanks_12 : decode cX3_skipBlanks 12 = .ok (.aload_n 0, 1) := by decide +kernel
theorem dX3_skipBlanks_13 : decode cX3_skipBlanks 13 = .ok (.getfield 27, 3) := by decide +kernel
theorem dX3_skipBlanks_16 : decode cX3_skipBlanks 16 = .ok (.invokevirtual 54, 3) := by decide +kernel
theorem dX3_skipBlanks_19 : decode cX3_skipBlanks 19 = .ok (.bipush 32, 2) := by decide +kernel
theorem dX3_skipBlanks_21 : decode cX3_skipBlanks 21 = .ok (.if_icmp .ne 19, 3) := by decide +kernel
theorem dX3_skipBlanks_24 : decode cX3_skipBlanks 24 = .ok (.aload_n 0, 1) := by decide +kernel
theorem dX3_skipBlanks_25 : decode cX3_skipBlanks 25 = .ok (.dup, 1) := by decide +kernel
theorem dX3_skipBlanks_26 : decode cX3_skipBlanks 26 = .ok (.getfield 27, 3) := by decide +kernel
theorem dX3_skipBlanks_29 : decode cX3_skipBlanks 29 = .ok (.iconst 1, 1) := by decide +kernel
theorem dX3_skipBlanks_30 : decode cX3_skipBlanks 30 = .ok (.iadd, 1) := by decide +kernel
theorem dX3_skipBlanks_31 : decode cX3_skipBlanks 31 = .ok (.putfield 27, 3) := by decide +kernel
theorem dX3_skipBlanks_34 : decode cX3_skipBlanks 34 = .ok (.iinc 1 1, 3) := by decide +kernel
theorem dX3_skipBlanks_37 : decode cX3_skipBlanks 37 = .ok (.goto (-35), 3) := by decide +kernel
theorem dX3_skipBlanks_40 : decode cX3_skipBlanks 40 = .ok (.return_, 1) := by decide +kernel
theorem dX3_take_0 : decode cX3_take 0 = .ok (.aload_n 0, 1) := by decide +kernel
theorem dX3_take_1 : decode cX3_take 1 = .ok (.getfield 23, 3) := by decide +kernel
theorem dX3_take_4 : decode cX3_take 4 = .ok (.aload_n 0, 1) := by decide +kernel
theorem dX3_take_5 : decode cX3_take 5 = .ok (.getfield 27, 3) := by decide +kernel
theorem dX3_take_8 : decode cX3_take 8 = .ok (.invokevirtual 54, 3) := by decide +kernel
theorem dX3_take_11 : decode cX3_take 11 = .ok (.istore_n 3, 1) := by decide +kernel
theorem dX3_take_12 : decode cX3_take 12 = .ok (.aload_n 0, 1) := by decide +kernel
theorem dX3_take_13 : decode cX3_take 13 = .ok (.getfield 31, 3) := by decide +kernel
theorem dX3_take_16 : decode cX3_take 16 = .ok (.bipush (-9), 2) := by decide +kernel
theorem dX3_take_18 : decode cX3_take 18 = .ok (.if_icmp .ne 21, 3) := by decide +kernel
theorem dX3_take_21 : decode cX3_take 21 = .ok (.iload_n 3, 1) := by decide +kernel
theorem dX3_take_22 : decode cX3_take 22 = .ok (.iload_n 1, 1) := by decide +kernel
theorem dX3_take_23 : decode cX3_take 23 = .ok (.if_icmp .lt 8, 3) := by decide +kernel
theorem dX3_take_26 : decode cX3_take 26 = .ok (.iload_n 3, 1) := by decide +kernel
theorem dX3_take_27 : decode cX3_take 27 = .ok (.iload_n 2, 1) := by decide +kernel
theorem dX3_take_28 : decode cX3_take 28 = .ok (.if_icmp .le 11, 3) := by decide +kernel
theorem dX3_take_31 : decode cX3_take 31 = .ok (.aload_n 0, 1) := by decide +kernel
theorem dX3_take_32 : decode cX3_take 32 = .ok (.aload_n 0, 1) := by decide +kernel
theorem dX3_take_33 : decode cX3_take 33 = .ok (.getfield 27, 3) := by decide +kernel
theorem dX3_take_36 : decode cX3_take 36 = .ok (.putfield 31, 3) := by decide +kernel
theorem dX3_take_39 : decode cX3_take 39 = .ok (.aload_n 0, 1) := by decide +kernel
theorem dX3_take_40 : decode cX3_take 40 = .ok (.getfield 31, 3) := by decide +kernel
theorem dX3_take_43 : decode cX3_take 43 = .ok (.bipush (-9), 2) := by decide +kernel
theorem dX3_take_45 : decode cX3_take 45 = .ok (.if_icmp .eq 5, 3) := by decide +kernel
theorem dX3_take_48 : decode cX3_take 48 = .ok (.iconst 0, 1) := by decide +kernel
theorem dX3_take_49 : decode cX3_take 49 = .ok (.ireturn, 1) := by decide +kernel
theorem dX3_take_50 : decode cX3_take 50 = .ok (.aload_n 0, 1) := by decide +kernel
theorem dX3_take_51 : decode cX3_take 51 = .ok (.dup, 1) := by decide +kernel
theorem dX3_take_52 : decode cX3_take 52 = .ok (.getfield 27, 3) := by decide +kernel
theorem dX3_take_55 : decode cX3_take 55 = .ok (.iconst 1, 1) := by decide +kernel
theorem dX3_take_56 : decode cX3_take 56 = .ok (.iadd, 1) := by decide +kernel
theorem dX3_take_57 : decode cX3_take 57 = .ok (.putfield 27, 3) := by decide +kernel
theorem dX3_take_60 : decode cX3_take 60 = .ok (.iload_n 3, 1) := by decide +kernel
theorem dX3_take_61 : decode cX3_take 61 = .ok (.iload_n 1, 1) := by decide +kernel
theorem dX3_take_62 : decode cX3_take 62 = .ok (.isub, 1) := by decide +kernel
theorem dX3_take_63 : decode cX3_take 63 = .ok (.ireturn, 1) := by decide +kernel
theorem dX3_readItem_0 : decode cX3_readItem 0 = .ok (.aload_n 0, 1) := by decide +kernel
theorem dX3_readItem_1 : decode cX3_readItem 1 = .ok (.getfield 23, 3) := by decide +kernel
theorem dX3_readItem_4 : decode cX3_readItem 4 = .ok (.aload_n 0, 1) := by decide +kernel
theorem dX3_readItem_5 : decode cX3_readItem 5 = .ok (.getfield 27, 3) := by decide +kernel
theorem dX3_readItem_8 : decode cX3_readItem 8 = .ok (.invokevirtual 54, 3) := by decide +kernel
theorem dX3_readItem_11 : decode cX3_readItem 11 = .ok (.istore_n 1, 1) := by decide +kernel
theorem dX3_readItem_12 : decode cX3_readItem 12 = .ok (.iload_n 1, 1) := by decide +kernel
theorem dX3_readItem_13 : decode cX3_readItem 13 = .ok (.invokestatic 58, 3) := by decide +kernel
theorem dX3_readItem_16 : decode cX3_readItem 16 = .ok (.istore_n 2, 1) := by decide +kernel
theorem dX3_readItem_17 : decode cX3_readItem 17 = .ok (.iload_n 1, 1) := by decide +kernel
theorem dX3_readItem_18 : decode cX3_readItem 18 = .ok (.bipush 111, 2) := by decide +kernel
theorem dX3_readItem_20 : decode cX3_readItem 20 = .ok (.if_icmp .ne 32, 3) := by decide +kernel
theorem dX3_readItem_23 : decode cX3_readItem 23 = .ok (.aload_n 0, 1) := by decide +kernel
theorem dX3_readItem_24 : decode cX3_readItem 24 = .ok (.getfield 12, 3) := by decide +kernel
theorem dX3_readItem_27 : decode cX3_readItem 27 = .ok (.getfield 61, 3) := by decide +kernel
theorem dX3_readItem_30 : decode cX3_readItem 30 = .ok (.ifCond .ne 22, 3) := by decide +kernel
theorem dX3_readItem_33 : decode cX3_readItem 33 = .ok (.aload_n 0, 1) := by decide +kernel
theorem dX3_readItem_34 : decode cX3_readItem 34 = .ok (.getfield 12, 3) := by decide +kernel
theorem dX3_readItem_37 : decode cX3_readItem 37 = .ok (.getfield 64, 3) := by decide +kernel
theorem dX3_readItem_40 : decode cX3_readItem 40 = .ok (.bipush 6, 2) := by decide +kernel
theorem dX3_readItem_42 : decode cX3_readItem 42 = .ok (.if_icmp .ge 10, 3) := by decide +kernel
theorem dX3_readItem_45 : decode cX3_readItem 45 = .ok (.aload_n 0, 1) := by decide +kernel
theorem dX3_readItem_46 : decode cX3_readItem 46 = .ok (.invokevirtual 67, 3) := by decide +kernel
theorem dX3_readItem_49 : decode cX3_readItem 49 = .ok (.goto 37, 3) := by decide +kernel
theorem dX3_readItem_52 : decode cX3_readItem 52 = .ok (.iload_n 2, 1) := by decide +kernel
theorem dX3_readItem_53 : decode cX3_readItem 53 = .ok (.bipush (-9), 2) := by decide +kernel
theorem dX3_readItem_55 : decode cX3_readItem 55 = .ok (.if_icmp .eq 23, 3) := by decide +kernel
theorem dX3_readItem_58 : decode cX3_readItem 58 = .ok (.aload_n 0, 1) := by decide +kernel
theorem dX3_readItem_59 : decode cX3_readItem 59 = .ok (.getfield 12, 3) := by decide +kernel
theorem dX3_readItem_62 : decode cX3_readItem 62 = .ok (.getfield 61, 3) := by decide +kernel
theorem dX3_readItem_65 : decode cX3_readItem 65 = .ok (.bipush 6, 2) := by decide +kernel
theorem dX3_readItem_67 : decode cX3_readItem 67 = .ok (.if_icmp .ge 11, 3) := by decide +kernel
theorem dX3_readItem_70 : decode cX3_readItem 70 = .ok (.aload_n 0, 1) := by decide +kernel
theorem dX3_readItem_71 : decode cX3_readItem 71 = .ok (.iload_n 2, 1) := by decide +kernel
theorem dX3_readItem_72 : decode cX3_readItem 72 = .ok (.invokevirtual 70, 3) := by decide +kernel
theorem dX3_readItem_75 : decode cX3_readItem 75 = .ok (.goto 11, 3) := by decide +kernel
theorem dX3_readItem_78 : decode cX3_readItem 78 = .ok (.aload_n 0, 1) := by decide +kernel
theorem dX3_readItem_79 : decode cX3_readItem 79 = .ok (.aload_n 0, 1) := by decide +kernel
theorem dX3_readItem_80 : decode cX3_readItem 80 = .ok (.getfield 27, 3) := by decide +kernel
theorem dX3_readItem_83 : decode cX3_readItem 83 = .ok (.putfield 31, 3) := by decide +kernel
theorem dX3_readItem_86 : decode cX3_readItem 86 = .ok (.return_, 1) := by decide +kernel
theorem dX3_kindOf_0 : decode cX3_kindOf 0 = .ok (.iconst 0, 1) := by decide +kernel
theorem dX3_kindOf_1 : decode cX3_kindOf 1 = .ok (.istore_n 1, 1) := by decide +kernel
theorem dX3_kindOf_2 : decode cX3_kindOf 2 = .ok (.iload_n 1, 1) := by decide +kernel
theorem dX3_kindOf_3 : decode cX3_kindOf 3 = .ok (.getstatic 73, 3) := by decide +kernel
theorem dX3_kindOf_6 : decode cX3_kindOf 6 = .ok (.arraylength, 1) := by decide +kernel
theorem dX3_kindOf_7 : decode cX3_kindOf 7 = .ok (.if_icmp .ge 20, 3) := by decide +kernel
theorem dX3_kindOf_10 : decode cX3_kindOf 10 = .ok (.getstatic 73, 3) := by decide +kernel
theorem dX3_kindOf_13 : decode cX3_kindOf 13 = .ok (.iload_n 1, 1) := by decide +kernel
theorem dX3_kindOf_14 : decode cX3_kindOf 14 = .ok (.iaload, 1) := by decide +kernel
theorem dX3_kindOf_15 : decode cX3_kindOf 15 = .ok (.iload_n 0, 1) := by decide +kernel
theorem dX3_kindOf_16 : decode cX3_kindOf 16 = .ok (.if_icmp .ne 5, 3) := by decide +kernel
theorem dX3_kindOf_19 : decode cX3_kindOf 19 = .ok (.iload_n 1, 1) := by decide +kernel
theorem dX3_kindOf_20 : decode cX3_kindOf 20 = .ok (.ireturn, 1) := by decide +kernel
theorem dX3_kindOf_21 : decode cX3_kindOf 21 = .ok (.iinc 1 1, 3) := by decide +kernel
theorem dX3_kindOf_24 : decode cX3_kindOf 24 = .ok (.goto (-22), 3) := by decide +kernel
theorem dX3_kindOf_27 : decode cX3_kindOf 27 = .ok (.bipush (-9), 2) := by decide +kernel
theorem dX3_kindOf_29 : decode cX3_kindOf 29 = .ok (.ireturn, 1) := by decide +kernel
theorem dX3_readStall_0 : decode cX3_readStall 0 = .ok (.aload_n 0, 1) := by decide +kernel
theorem dX3_readStall_1 : decode cX3_readStall 1 = .ok (.dup, 1) := by decide +kernel
theorem dX3_readStall_2 : decode cX3_readStall 2 = .ok (.getfield 27, 3) := by decide +kernel
theorem dX3_readStall_5 : decode cX3_readStall 5 = .ok (.iconst 1, 1) := by decide +kernel
theorem dX3_readStall_6 : decode cX3_readStall 6 = .ok (.iadd, 1) := by decide +kernel
theorem dX3_readStall_7 : decode cX3_readStall 7 = .ok (.putfield 27, 3) := by decide +kernel
theorem dX3_readStall_10 : decode cX3_readStall 10 = .ok (.aload_n 0, 1) := by decide +kernel
theorem dX3_readStall_11 : decode cX3_readStall 11 = .ok (.bipush 65, 2) := by decide +kernel
theorem dX3_readStall_13 : decode cX3_readStall 13 = .ok (.bipush 84, 2) := by decide +kernel
theorem dX3_readStall_15 : decode cX3_readStall 15 = .ok (.invokevirtual 40, 3) := by decide +kernel
theorem dX3_readStall_18 : decode cX3_readStall 18 = .ok (.istore_n 1, 1) := by decide +kernel
theorem dX3_readStall_19 : decode cX3_readStall 19 = .ok (.aload_n 0, 1) := by decide +kernel
theorem dX3_readStall_20 : decode cX3_readStall 20 = .ok (.bipush 48, 2) := by decide +kernel
theorem dX3_readStall_22 : decode cX3_readStall 22 = .ok (.bipush 51, 2) := by decide +kernel
theorem dX3_readStall_24 : decode cX3_readStall 24 = .ok (.invokevirtual 40, 3) := by decide +kernel
theorem dX3_readStall_27 : decode cX3_readStall 27 = .ok (.istore_n 2, 1) := by decide +kernel
theorem dX3_readStall_28 : decode cX3_readStall 28 = .ok (.aload_n 0, 1) := by decide +kernel
theorem dX3_readStall_29 : decode cX3_readStall 29 = .ok (.bipush 48, 2) := by decide +kernel
theorem dX3_readStall_31 : decode cX3_readStall 31 = .ok (.bipush 57, 2) := by decide +kernel
theorem dX3_readStall_33 : decode cX3_readStall 33 = .ok (.invokevirtual 40, 3) := by decide +kernel
theorem dX3_readStall_36 : decode cX3_readStall 36 = .ok (.istore_n 3, 1) := by decide +kernel
theorem dX3_readStall_37 : decode cX3_readStall 37 = .ok (.aload_n 0, 1) := by decide +kernel
theorem dX3_readStall_38 : decode cX3_readStall 38 = .ok (.getfield 31, 3) := by decide +kernel
theorem dX3_readStall_41 : decode cX3_readStall 41 = .ok (.bipush (-9), 2) := by decide +kernel
theorem dX3_readStall_43 : decode cX3_readStall 43 = .ok (.if_icmp .ne 13, 3) := by decide +kernel
theorem dX3_readStall_46 : decode cX3_readStall 46 = .ok (.aload_n 0, 1) := by decide +kernel
theorem dX3_readStall_47 : decode cX3_readStall 47 = .ok (.getfield 12, 3) := by decide +kernel
theorem dX3_readStall_50 : decode cX3_readStall 50 = .ok (.iload_n 1, 1) := by decide +kernel
theorem dX3_readStall_51 : decode cX3_readStall 51 = .ok (.iload_n 2, 1) := by decide +kernel
theorem dX3_readStall_52 : decode cX3_readStall 52 = .ok (.iload_n 3, 1) := by decide +kernel
theorem dX3_readStall_53 : decode cX3_readStall 53 = .ok (.invokevirtual 77, 3) := by decide +kernel
theorem dX3_readStall_56 : decode cX3_readStall 56 = .ok (.return_, 1) := by decide +kernel
theorem dX3_readBuyer_0 : decode cX3_readBuyer 0 = .ok (.aload_n 0, 1) := by decide +kernel
theorem dX3_readBuyer_1 : decode cX3_readBuyer 1 = .ok (.dup, 1) := by decide +kernel
theorem dX3_readBuyer_2 : decode cX3_readBuyer 2 = .ok (.getfield 27, 3) := by decide +kernel
theorem dX3_readBuyer_5 : decode cX3_readBuyer 5 = .ok (.iconst 1, 1) := by decide +kernel
theorem dX3_readBuyer_6 : decode cX3_readBuyer 6 = .ok (.iadd, 1) := by decide +kernel
theorem dX3_readBuyer_7 : decode cX3_readBuyer 7 = .ok (.putfield 27, 3) := by decide +kernel
theorem dX3_readBuyer_10 : decode cX3_readBuyer 10 = .ok (.aload_n 0, 1) := by decide +kernel
theorem dX3_readBuyer_11 : decode cX3_readBuyer 11 = .ok (.bipush 65, 2) := by decide +kernel
theorem dX3_readBuyer_13 : decode cX3_readBuyer 13 = .ok (.bipush 84, 2) := by decide +kernel
theorem dX3_readBuyer_15 : decode cX3_readBuyer 15 = .ok (.invokevirtual 40, 3) := by decide +kernel
theorem dX3_readBuyer_18 : decode cX3_readBuyer 18 = .ok (.istore_n 2, 1) := by decide +kernel
theorem dX3_readBuyer_19 : decode cX3_readBuyer 19 = .ok (.aload_n 0, 1) := by decide +kernel
theorem dX3_readBuyer_20 : decode cX3_readBuyer 20 = .ok (.getfield 31, 3) := by decide +kernel
theorem dX3_readBuyer_23 : decode cX3_readBuyer 23 = .ok (.bipush (-9), 2) := by decide +kernel
theorem dX3_readBuyer_25 : decode cX3_readBuyer 25 = .ok (.if_icmp .ne 25, 3) := by decide +kernel
theorem dX3_readBuyer_28 : decode cX3_readBuyer 28 = .ok (.aload_n 0, 1) := by decide +kernel
theorem dX3_readBuyer_29 : decode cX3_readBuyer 29 = .ok (.getfield 12, 3) := by decide +kernel
theorem dX3_readBuyer_32 : decode cX3_readBuyer 32 = .ok (.iload_n 1, 1) := by decide +kernel
theorem dX3_readBuyer_33 : decode cX3_readBuyer 33 = .ok (.iload_n 2, 1) := by decide +kernel
theorem dX3_readBuyer_34 : decode cX3_readBuyer 34 = .ok (.invokevirtual 81, 3) := by decide +kernel
theorem dX3_readBuyer_37 : decode cX3_readBuyer 37 = .ok (.ifCond .ne 13, 3) := by decide +kernel
theorem dX3_readBuyer_40 : decode cX3_readBuyer 40 = .ok (.aload_n 0, 1) := by decide +kernel
theorem dX3_readBuyer_41 : decode cX3_readBuyer 41 = .ok (.aload_n 0, 1) := by decide +kernel
theorem dX3_readBuyer_42 : decode cX3_readBuyer 42 = .ok (.getfield 27, 3) := by decide +kernel
theorem dX3_readBuyer_45 : decode cX3_readBuyer 45 = .ok (.iconst 1, 1) := by decide +kernel
theorem dX3_readBuyer_46 : decode cX3_readBuyer 46 = .ok (.isub, 1) := by decide +kernel
theorem dX3_readBuyer_47 : decode cX3_readBuyer 47 = .ok (.putfield 31, 3) := by decide +kernel
theorem dX3_readBuyer_50 : decode cX3_readBuyer 50 = .ok (.aload_n 0, 1) := by decide +kernel
theorem dX3_readBuyer_51 : decode cX3_readBuyer 51 = .ok (.invokevirtual 85, 3) := by decide +kernel
theorem dX3_readBuyer_54 : decode cX3_readBuyer 54 = .ok (.istore_n 3, 1) := by decide +kernel
theorem dX3_readBuyer_55 : decode cX3_readBuyer 55 = .ok (.aload_n 0, 1) := by decide +kernel
theorem dX3_readBuyer_56 : decode cX3_readBuyer 56 = .ok (.getfield 31, 3) := by decide +kernel
theorem dX3_readBuyer_59 : decode cX3_readBuyer 59 = .ok (.bipush (-9), 2) := by decide +kernel
theorem dX3_readBuyer_61 : decode cX3_readBuyer 61 = .ok (.if_icmp .ne 13, 3) := by decide +kernel
theorem dX3_readBuyer_64 : decode cX3_readBuyer 64 = .ok (.aload_n 0, 1) := by decide +kernel
theorem dX3_readBuyer_65 : decode cX3_readBuyer 65 = .ok (.getfield 12, 3) := by decide +kernel
theorem dX3_readBuyer_68 : decode cX3_readBuyer 68 = .ok (.iload_n 1, 1) := by decide +kernel
theorem dX3_readBuyer_69 : decode cX3_readBuyer 69 = .ok (.iload_n 2, 1) := by decide +kernel
theorem dX3_readBuyer_70 : decode cX3_readBuyer 70 = .ok (.iload_n 3, 1) := by decide +kernel
theorem dX3_readBuyer_71 : decode cX3_readBuyer 71 = .ok (.invokevirtual 89, 3) := by decide +kernel
theorem dX3_readBuyer_74 : decode cX3_readBuyer 74 = .ok (.return_, 1) := by decide +kernel
theorem dX3_takeWant_0 : decode cX3_takeWant 0 = .ok (.aload_n 0, 1) := by decide +kernel
theorem dX3_takeWant_1 : decode cX3_takeWant 1 = .ok (.getfield 23, 3) := by decide +kernel
theorem dX3_takeWant_4 : decode cX3_takeWant 4 = .ok (.aload_n 0, 1) := by decide +kernel
theorem dX3_takeWant_5 : decode cX3_takeWant 5 = .ok (.getfield 27, 3) := by decide +kernel
theorem dX3_takeWant_8 : decode cX3_takeWant 8 = .ok (.invokevirtual 54, 3) := by decide +kernel
theorem dX3_takeWant_11 : decode cX3_takeWant 11 = .ok (.bipush 45, 2) := by decide +kernel
theorem dX3_takeWant_13 : decode cX3_takeWant 13 = .ok (.if_icmp .ne 14, 3) := by decide +kernel
theorem dX3_takeWant_16 : decode cX3_takeWant 16 = .ok (.aload_n 0, 1) := by decide +kernel
theorem dX3_takeWant_17 : decode cX3_takeWant 17 = .ok (.bipush 45, 2) := by decide +kernel
theorem dX3_takeWant_19 : decode cX3_takeWant 19 = .ok (.bipush 45, 2) := by decide +kernel
theorem dX3_takeWant_21 : decode cX3_takeWant 21 = .ok (.invokevirtual 40, 3) := by decide +kernel
theorem dX3_takeWant_24 : decode cX3_takeWant 24 = .ok (.pop, 1) := by decide +kernel
theorem dX3_takeWant_25 : decode cX3_takeWant 25 = .ok (.iconst 4, 1) := by decide +kernel
theorem dX3_takeWant_26 : decode cX3_takeWant 26 = .ok (.ireturn, 1) := by decide +kernel
theorem dX3_takeWant_27 : decode cX3_takeWant 27 = .ok (.aload_n 0, 1) := by decide +kernel
theorem dX3_takeWant_28 : decode cX3_takeWant 28 = .ok (.bipush 48, 2) := by decide +kernel
theorem dX3_takeWant_30 : decode cX3_takeWant 30 = .ok (.bipush 51, 2) := by decide +kernel
theorem dX3_takeWant_32 : decode cX3_takeWant 32 = .ok (.invokevirtual 40, 3) := by decide +kernel
theorem dX3_takeWant_35 : decode cX3_takeWant 35 = .ok (.ireturn, 1) := by decide +kernel
theorem dX4_init_0 : decode cX4_init 0 = .ok (.aload_n 0, 1) := by decide +kernel
theorem dX4_init_1 : decode cX4_init 1 = .ok (.invokespecial 3, 3) := by decide +kernel
theorem dX4_init_4 : decode cX4_init 4 = .ok (.aload_n 0, 1) := by decide +kernel
theorem dX4_init_5 : decode cX4_init 5 = .ok (.iconst (-1), 1) := by decide +kernel
theorem dX4_init_6 : decode cX4_init 6 = .ok (.putfield 11, 3) := by decide +kernel
theorem dX4_init_9 : decode cX4_init 9 = .ok (.aload_n 0, 1) := by decide +kernel
theorem dX4_init_10 : decode cX4_init 10 = .ok (.iload_n 1, 1) := by decide +kernel
theorem dX4_init_11 : decode cX4_init 11 = .ok (.newarray .int, 2) := by decide +kernel
theorem dX4_init_13 : decode cX4_init 13 = .ok (.putfield 15, 3) := by decide +kernel
theorem dX4_init_16 : decode cX4_init 16 = .ok (.return_, 1) := by decide +kernel
theorem dX4_size_0 : decode cX4_size 0 = .ok (.aload_n 0, 1) := by decide +kernel
theorem dX4_size_1 : decode cX4_size 1 = .ok (.getfield 11, 3) := by decide +kernel
theorem dX4_size_4 : decode cX4_size 4 = .ok (.ireturn, 1) := by decide +kernel
theorem dX4_isThere_0 : decode cX4_isThere 0 = .ok (.aload_n 0, 1) := by decide +kernel
theorem dX4_isThere_1 : decode cX4_isThere 1 = .ok (.getfield 11, 3) := by decide +kernel
theorem dX4_isThere_4 : decode cX4_isThere 4 = .ok (.iconst (-1), 1) := by decide +kernel
theorem dX4_isThere_5 : decode cX4_isThere 5 = .ok (.if_icmp .eq 7, 3) := by decide +kernel
theorem dX4_isThere_8 : decode cX4_isThere 8 = .ok (.iconst 1, 1) := by decide +kernel
theorem dX4_isThere_9 : decode cX4_isThere 9 = .ok (.goto 4, 3) := by decide +kernel
theorem dX4_isThere_12 : decode cX4_isThere 12 = .ok (.iconst 0, 1) := by decide +kernel
theorem dX4_isThere_13 : decode cX4_isThere 13 = .ok (.ireturn, 1) := by decide +kernel
theorem dX4_has_0 : decode cX4_has 0 = .ok (.iload_n 1, 1) := by decide +kernel
theorem dX4_has_1 : decode cX4_has 1 = .ok (.aload_n 0, 1) := by decide +kernel
theorem dX4_has_2 : decode cX4_has 2 = .ok (.getfield 11, 3) := by decide +kernel
theorem dX4_has_5 : decode cX4_has 5 = .ok (.invokestatic 19, 3) := by decide +kernel
theorem dX4_has_8 : decode cX4_has 8 = .ok (.ireturn, 1) := by decide +kernel
theorem dX4_hasPart_0 : decode cX4_hasPart 0 = .ok (.iload_n 1, 1) := by decide +kernel
theorem dX4_hasPart_1 : decode cX4_hasPart 1 = .ok (.aload_n 0, 1) := by decide +kernel
theorem dX4_hasPart_2 : decode cX4_hasPart 2 = .ok (.getfield 11, 3) := by decide +kernel
theorem dX4_hasPart_5 : decode cX4_hasPart 5 = .ok (.invokestatic 23, 3) := by decide +kernel
theorem dX4_hasPart_8 : decode cX4_hasPart 8 = .ok (.ifCond .eq 20, 3) := by decide +kernel
theorem dX4_hasPart_11 : decode cX4_hasPart 11 = .ok (.iload_n 2, 1) := by decide +kernel
theorem dX4_hasPart_12 : decode cX4_hasPart 12 = .ok (.aload_n 0, 1) := by decide +kernel
theorem dX4_hasPart_13 : decode cX4_hasPart 13 = .ok (.getfield 11, 3) := by decide +kernel
theorem dX4_hasPart_16 : decode cX4_hasPart 16 = .ok (.iload_n 1, 1) := by decide +kernel
theorem dX4_hasPart_17 : decode cX4_hasPart 17 = .ok (.isub, 1) := by decide +kernel
theorem dX4_hasPart_18 : decode cX4_hasPart 18 = .ok (.invokestatic 23, 3) := by decide +kernel
theorem dX4_hasPart_21 : decode cX4_hasPart 21 = .ok (.ifCond .eq 7, 3) := by decide +kernel
theorem dX4_hasPart_24 : decode cX4_hasPart 24 = .ok (.iconst 1, 1) := by decide +kernel
theorem dX4_hasPart_25 : decode cX4_hasPart 25 = .ok (.goto 4, 3) := by decide +kernel
theorem dX4_hasPart_28 : decode cX4_hasPart 28 = .ok (.iconst 0, 1) := by decide +kernel
theorem dX4_hasPart_29 : decode cX4_hasPart 29 = .ok (.ireturn, 1) := by decide +kernel
theorem dX4_renew_0 : decode cX4_renew 0 = .ok (.aload_n 0, 1) := by decide +kernel
theorem dX4_renew_1 : decode cX4_renew 1 = .ok (.iload_n 1, 1) := by decide +kernel
theorem dX4_renew_2 : decode cX4_renew 2 = .ok (.aload_n 0, 1) := by decide +kernel
theorem dX4_renew_3 : decode cX4_renew 3 = .ok (.getfield 15, 3) := by decide +kernel
theorem dX4_renew_6 : decode cX4_renew 6 = .ok (.arraylength, 1) := by decide +kernel
theorem dX4_renew_7 : decode cX4_renew 7 = .ok (.invokestatic 23, 3) := by decide +kernel
theorem dX4_renew_10 : decode cX4_renew 10 = .ok (.ifCond .eq 7, 3) := by decide +kernel
theorem dX4_renew_13 : decode cX4_renew 13 = .ok (.iload_n 1, 1) := by decide +kernel
theorem dX4_renew_14 : decode cX4_renew 14 = .ok (.goto 4, 3) := by decide +kernel
theorem dX4_renew_17 : decode cX4_renew 17 = .ok (.iconst 0, 1) := by decide +kernel
theorem dX4_renew_18 : decode cX4_renew 18 = .ok (.putfield 11, 3) := by decide +kernel
theorem dX4_renew_21 : decode cX4_renew 21 = .ok (.iconst 0, 1) := by decide +kernel
theorem dX4_renew_22 : decode cX4_renew 22 = .ok (.istore_n 3, 1) := by decide +kernel
theorem dX4_renew_23 : decode cX4_renew 23 = .ok (.iload_n 3, 1) := by decide +kernel
theorem dX4_renew_24 : decode cX4_renew 24 = .ok (.aload_n 0, 1) := by decide +kernel
theorem dX4_renew_25 : decode cX4_renew 25 = .ok (.getfield 11, 3) := by decide +kernel
theorem dX4_renew_28 : decode cX4_renew 28 = .ok (.if_icmp .ge 16, 3) := by decide +kernel
theorem dX4_renew_31 : decode cX4_renew 31 = .ok (.aload_n 0, 1) := by decide +kernel
theorem dX4_renew_32 : decode cX4_renew 32 = .ok (.getfield 15, 3) := by decide +kernel
theorem dX4_renew_35 : decode cX4_renew 35 = .ok (.iload_n 3, 1) := by decide +kernel
theorem dX4_renew_36 : decode cX4_renew 36 = .ok (.iload_n 2, 1) := by decide +kernel
theorem dX4_renew_37 : decode cX4_renew 37 = .ok (.iastore, 1) := by decide +kernel
theorem dX4_renew_38 : decode cX4_renew 38 = .ok (.iinc 3 1, 3) := by decide +kernel
theorem dX4_renew_41 : decode cX4_renew 41 = .ok (.goto (-18), 3) := by decide +kernel
theorem dX4_renew_44 : decode cX4_renew 44 = .ok (.return_, 1) := by decide +kernel
theorem dX4_remove_0 : decode cX4_remove 0 = .ok (.aload_n 0, 1) := by decide +kernel
theorem dX4_remove_1 : decode cX4_remove 1 = .ok (.iconst (-1), 1) := by decide +kernel
theorem dX4_remove_2 : decode cX4_remove 2 = .ok (.putfield 11, 3) := by decide +kernel
theorem dX4_remove_5 : decode cX4_remove 5 = .ok (.return_, 1) := by decide +kernel
theorem dX4_get_0 : decode cX4_get 0 = .ok (.aload_n 0, 1) := by decide +kernel
theorem dX4_get_1 : decode cX4_get 1 = .ok (.iload_n 1, 1) := by decide +kernel
theorem dX4_get_2 : decode cX4_get 2 = .ok (.invokevirtual 26, 3) := by decide +kernel
theorem dX4_get_5 : decode cX4_get 5 = .ok (.ifCond .eq 12, 3) := by decide +kernel
theorem dX4_get_8 : decode cX4_get 8 = .ok (.aload_n 0, 1) := by decide +kernel
theorem dX4_get_9 : decode cX4_get 9 = .ok (.getfield 15, 3) := by decide +kernel
theorem dX4_get_12 : decode cX4_get 12 = .ok (.iload_n 1, 1) := by decide +kernel
theorem dX4_get_13 : decode cX4_get 13 = .ok (.iaload, 1) := by decide +kernel
theorem dX4_get_14 : decode cX4_get 14 = .ok (.goto 6, 3) := by decide +kernel
theorem dX4_get_17 : decode cX4_get 17 = .ok (.sipush (-1000), 3) := by decide +kernel
theorem dX4_get_20 : decode cX4_get 20 = .ok (.ireturn, 1) := by decide +kernel
theorem dX4_exchange_0 : decode cX4_exchange 0 = .ok (.aload_n 0, 1) := by decide +kernel
theorem dX4_exchange_1 : decode cX4_exchange 1 = .ok (.iload_n 1, 1) := by decide +kernel
theorem dX4_exchange_2 : decode cX4_exchange 2 = .ok (.invokevirtual 30, 3) := by decide +kernel
theorem dX4_exchange_5 : decode cX4_exchange 5 = .ok (.istore_n 3, 1) := by decide +kernel
theorem dX4_exchange_6 : decode cX4_exchange 6 = .ok (.aload_n 0, 1) := by decide +kernel
theorem dX4_exchange_7 : decode cX4_exchange 7 = .ok (.iload_n 1, 1) := by decide +kernel
theorem dX4_exchange_8 : decode cX4_exchange 8 = .ok (.invokevirtual 26, 3) := by decide +kernel
theorem dX4_exchange_11 : decode cX4_exchange 11 = .ok (.ifCond .eq 10, 3) := by decide +kernel
theorem dX4_exchange_14 : decode cX4_exchange 14 = .ok (.aload_n 0, 1) := by decide +kernel
theorem dX4_exchange_15 : decode cX4_exchange 15 = .ok (.getfield 15, 3) := by decide +kernel
theorem dX4_exchange_18 : decode cX4_exchange 18 = .ok (.iload_n 1, 1) := by decide +kernel
theorem dX4_exchange_19 : decode cX4_exchange 19 = .ok (.iload_n 2, 1) := by decide +kernel
theorem dX4_exchange_20 : decode cX4_exchange 20 = .ok (.iastore, 1) := by decide +kernel
theorem dX4_exchange_21 : decode cX4_exchange 21 = .ok (.iload_n 3, 1) := by decide +kernel
theorem dX4_exchange_22 : decode cX4_exchange 22 = .ok (.ireturn, 1) := by decide +kernel
theorem dX4_takePart_0 : decode cX4_takePart 0 = .ok (.aload_n 1, 1) := by decide +kernel
theorem dX4_takePart_1 : decode cX4_takePart 1 = .ok (.iload_n 2, 1) := by decide +kernel
theorem dX4_takePart_2 : decode cX4_takePart 2 = .ok (.iload 4, 2) := by decide +kernel
theorem dX4_takePart_4 : decode cX4_takePart 4 = .ok (.invokevirtual 34, 3) := by decide +kernel
theorem dX4_takePart_7 : decode cX4_takePart 7 = .ok (.ifCond .eq 28, 3) := by decide +kernel
theorem dX4_takePart_10 : decode cX4_takePart 10 = .ok (.aload_n 0, 1) := by decide +kernel
theorem dX4_takePart_11 : decode cX4_takePart 11 = .ok (.iload_n 3, 1) := by decide +kernel
theorem dX4_takePart_12 : decode cX4_takePart 12 = .ok (.iload 4, 2) := by decide +kernel
theorem dX4_takePart_14 : decode cX4_takePart 14 = .ok (.invokevirtual 34, 3) := by decide +kernel
theorem dX4_takePart_17 : decode cX4_takePart 17 = .ok (.ifCond .eq 18, 3) := by decide +kernel
theorem dX4_takePart_20 : decode cX4_takePart 20 = .ok (.aload_n 1, 1) := by decide +kernel
theorem dX4_takePart_21 : decode cX4_takePart 21 = .ok (.getfield 15, 3) := by decide +kernel
theorem dX4_takePart_24 : decode cX4_takePart 24 = .ok (.iload_n 2, 1) := by decide +kernel
theorem dX4_takePart_25 : decode cX4_takePart 25 = .ok (.aload_n 0, 1) := by decide +kernel
theorem dX4_takePart_26 : decode cX4_takePart 26 = .ok (.getfield 15, 3) := by decide +kernel
theorem dX4_takePart_29 : decode cX4_takePart 29 = .ok (.iload_n 3, 1) := by decide +kernel
theorem dX4_takePart_30 : decode cX4_takePart 30 = .ok (.iload 4, 2) := by decide +kernel
theorem dX4_takePart_32 : decode cX4_takePart 32 = .ok (.invokestatic 37, 3) := by decide +kernel
theorem dX4_takePart_35 : decode cX4_takePart 35 = .ok (.return_, 1) := by decide +kernel
theorem dX4_sum_0 : decode cX4_sum 0 = .ok (.lconst 0, 1) := by decide +kernel
theorem dX4_sum_1 : decode cX4_sum 1 = .ok (.lstore_n 1, 1) := by decide +kernel
theorem dX4_sum_2 : decode cX4_sum 2 = .ok (.iconst 0, 1) := by decide +kernel
theorem dX4_sum_3 : decode cX4_sum 3 = .ok (.istore_n 3, 1) := by decide +kernel
theorem dX4_sum_4 : decode cX4_sum 4 = .ok (.iload_n 3, 1) := by decide +kernel
theorem dX4_sum_5 : decode cX4_sum 5 = .ok (.aload_n 0, 1) := by decide +kernel
theorem dX4_sum_6 : decode cX4_sum 6 = .ok (.getfield 11, 3) := by decide +kernel
theorem dX4_sum_9 : decode cX4_sum 9 = .ok (.if_icmp .ge 19, 3) := by decide +kernel
theorem dX4_sum_12 : decode cX4_sum 12 = .ok (.lload_n 1, 1) := by decide +kernel
theorem dX4_sum_13 : decode cX4_sum 13 = .ok (.aload_n 0, 1) := by decide +kernel
theorem dX4_sum_14 : decode cX4_sum 14 = .ok (.getfield 15, 3) := by decide +kernel
theorem dX4_sum_17 : decode cX4_sum 17 = .ok (.iload_n 3, 1) := by decide +kernel
theorem dX4_sum_18 : decode cX4_sum 18 = .ok (.iaload, 1) := by decide +kernel
theorem dX4_sum_19 : decode cX4_sum 19 = .ok (.i2l, 1) := by decide +kernel
theorem dX4_sum_20 : decode cX4_sum 20 = .ok (.ladd, 1) := by decide +kernel
theorem dX4_sum_21 : decode cX4_sum 21 = .ok (.lstore_n 1, 1) := by decide +kernel
theorem dX4_sum_22 : decode cX4_sum 22 = .ok (.iinc 3 1, 3) := by decide +kernel
theorem dX4_sum_25 : decode cX4_sum 25 = .ok (.goto (-21), 3) := by decide +kernel
theorem dX4_sum_28 : decode cX4_sum 28 = .ok (.lload_n 1, 1) := by decide +kernel
theorem dX4_sum_29 : decode cX4_sum 29 = .ok (.lreturn, 1) := by decide +kernel
theorem dX4_digestOn_0 : decode cX4_digestOn 0 = .ok (.ldc2_w 43, 3) := by decide +kernel
theorem dX4_digestOn_3 : decode cX4_digestOn 3 = .ok (.lload_n 1, 1) := by decide +kernel
theorem dX4_digestOn_4 : decode cX4_digestOn 4 = .ok (.lmul, 1) := by decide +kernel
theorem dX4_digestOn_5 : decode cX4_digestOn 5 = .ok (.aload_n 0, 1) := by decide +kernel
theorem dX4_digestOn_6 : decode cX4_digestOn 6 = .ok (.getfield 11, 3) := by decide +kernel
theorem dX4_digestOn_9 : decode cX4_digestOn 9 = .ok (.i2l, 1) := by decide +kernel
theorem dX4_digestOn_10 : decode cX4_digestOn 10 = .ok (.ladd, 1) := by decide +kernel
theorem dX4_digestOn_11 : decode cX4_digestOn 11 = .ok (.lstore_n 1, 1) := by decide +kernel
theorem dX4_digestOn_12 : decode cX4_digestOn 12 = .ok (.iconst 0, 1) := by decide +kernel
theorem dX4_digestOn_13 : decode cX4_digestOn 13 = .ok (.istore_n 3, 1) := by decide +kernel
theorem dX4_digestOn_14 : decode cX4_digestOn 14 = .ok (.iload_n 3, 1) := by decide +kernel
theorem dX4_digestOn_15 : decode cX4_digestOn 15 = .ok (.aload_n 0, 1) := by decide +kernel
theorem dX4_digestOn_16 : decode cX4_digestOn 16 = .ok (.getfield 11, 3) := by decide +kernel
theorem dX4_digestOn_19 : decode cX4_digestOn 19 = .ok (.if_icmp .ge 23, 3) := by decide +kernel
theorem dX4_digestOn_22 : decode cX4_digestOn 22 = .ok (.ldc2_w 43, 3) := by decide +kernel
theorem dX4_digestOn_25 : decode cX4_digestOn 25 = .ok (.lload_n 1, 1) := by decide +kernel
theorem dX4_digestOn_26 : decode cX4_digestOn 26 = .ok (.lmul, 1) := by decide +kernel
theorem dX4_digestOn_27 : decode cX4_digestOn 27 = .ok (.aload_n 0, 1) := by decide +kernel
theorem dX4_digestOn_28 : decode cX4_digestOn 28 = .ok (.getfield 15, 3) := by decide +kernel
theorem dX4_digestOn_31 : decode cX4_digestOn 31 = .ok (.iload_n 3, 1) := by decide +kernel
theorem dX4_digestOn_32 : decode cX4_digestOn 32 = .ok (.iaload, 1) := by decide +kernel
theorem dX4_digestOn_33 : decode cX4_digestOn 33 = .ok (.i2l, 1) := by decide +kernel
theorem dX4_digestOn_34 : decode cX4_digestOn 34 = .ok (.ladd, 1) := by decide +kernel
theorem dX4_digestOn_35 : decode cX4_digestOn 35 = .ok (.lstore_n 1, 1) := by decide +kernel
theorem dX4_digestOn_36 : decode cX4_digestOn 36 = .ok (.iinc 3 1, 3) := by decide +kernel
theorem dX4_digestOn_39 : decode cX4_digestOn 39 = .ok (.goto (-25), 3) := by decide +kernel
theorem dX4_digestOn_42 : decode cX4_digestOn 42 = .ok (.lload_n 1, 1) := by decide +kernel
theorem dX4_digestOn_43 : decode cX4_digestOn 43 = .ok (.lreturn, 1) := by decide +kernel
theorem dX5_init_0 : decode cX5_init 0 = .ok (.aload_n 0, 1) := by decide +kernel
theorem dX5_init_1 : decode cX5_init 1 = .ok (.invokespecial 3, 3) := by decide +kernel
theorem dX5_init_4 : decode cX5_init 4 = .ok (.aload_n 0, 1) := by decide +kernel
theorem dX5_init_5 : decode cX5_init 5 = .ok (.new 9, 3) := by decide +kernel
theorem dX5_init_8 : decode cX5_init 8 = .ok (.dup, 1) := by decide +kernel
theorem dX5_init_9 : decode cX5_init 9 = .ok (.invokespecial 11, 3) := by decide +kernel
theorem dX5_init_12 : decode cX5_init 12 = .ok (.putfield 12, 3) := by decide +kernel
theorem dX5_init_15 : decode cX5_init 15 = .ok (.aload_n 0, 1) := by decide +kernel
theorem dX5_init_16 : decode cX5_init 16 = .ok (.bipush 6, 2) := by decide +kernel
theorem dX5_init_18 : decode cX5_init 18 = .ok (.newarray .int, 2) := by decide +kernel
theorem dX5_init_20 : decode cX5_init 20 = .ok (.putfield 18, 3) := by decide +kernel
theorem dX5_init_23 : decode cX5_init 23 = .ok (.return_, 1) := by decide +kernel
theorem dX5_seek_0 : decode cX5_seek 0 = .ok (.aload_n 0, 1) := by decide +kernel
theorem dX5_seek_1 : decode cX5_seek 1 = .ok (.iconst 0, 1) := by decide +kernel
theorem dX5_seek_2 : decode cX5_seek 2 = .ok (.putfield 22, 3) := by decide +kernel
theorem dX5_seek_5 : decode cX5_seek 5 = .ok (.aload_n 0, 1) := by decide +kernel
theorem dX5_seek_6 : decode cX5_seek 6 = .ok (.bipush (-9), 2) := by decide +kernel
theorem dX5_seek_8 : decode cX5_seek 8 = .ok (.putfield 26, 3) := by decide +kernel
theorem dX5_seek_11 : decode cX5_seek 11 = .ok (.iconst 0, 1) := by decide +kernel
theorem dX5_seek_12 : decode cX5_seek 12 = .ok (.istore 5, 2) := by decide +kernel
theorem dX5_seek_14 : decode cX5_seek 14 = .ok (.iload 5, 2) := by decide +kernel
theorem dX5_seek_16 : decode cX5_seek 16 = .ok (.bipush 6, 2) := by decide +kernel
theorem dX5_seek_18 : decode cX5_seek 18 = .ok (.if_icmp .ge 17, 3) := by decide +kernel
theorem dX5_seek_21 : decode cX5_seek 21 = .ok (.aload_n 0, 1) := by decide +kernel
theorem dX5_seek_22 : decode cX5_seek 22 = .ok (.getfield 18, 3) := by decide +kernel
theorem dX5_seek_25 : decode cX5_seek 25 = .ok (.iload 5, 2) := by decide +kernel
theorem dX5_seek_27 : decode cX5_seek 27 = .ok (.iconst 0, 1) := by decide +kernel
theorem dX5_seek_28 : decode cX5_seek 28 = .ok (.iastore, 1) := by decide +kernel
theorem dX5_seek_29 : decode cX5_seek 29 = .ok (.iinc 5 1, 3) := by decide +kernel
theorem dX5_seek_32 : decode cX5_seek 32 = .ok (.goto (-18), 3) := by decide +kernel
theorem dX5_seek_35 : decode cX5_seek 35 = .ok (.aload_n 0, 1) := by decide +kernel
theorem dX5_seek_36 : decode cX5_seek 36 = .ok (.getfield 12, 3) := by decide +kernel
theorem dX5_seek_39 : decode cX5_seek 39 = .ok (.aload_n 1, 1) := by decide +kernel
theorem dX5_seek_40 : decode cX5_seek 40 = .ok (.invokevirtual 29, 3) := by decide +kernel
theorem dX5_seek_43 : decode cX5_seek 43 = .ok (.iload_n 2, 1) := by decide +kernel
theorem dX5_seek_44 : decode cX5_seek 44 = .ok (.invokestatic 33, 3) := by decide +kernel
theorem dX5_seek_47 : decode cX5_seek 47 = .ok (.istore 5, 2) := by decide +kernel
theorem dX5_seek_49 : decode cX5_seek 49 = .ok (.iconst 0, 1) := by decide +kernel
theorem dX5_seek_50 : decode cX5_seek 50 = .ok (.istore 6, 2) := by decide +kernel
theorem dX5_seek_52 : decode cX5_seek 52 = .ok (.iload 6, 2) := by decide +kernel
theorem dX5_seek_54 : decode cX5_seek 54 = .ok (.iload 5, 2) := by decide +kernel
theorem dX5_seek_56 : decode cX5_seek 56 = .ok (.if_icmp .ge 94, 3) := by decide +kernel
theorem dX5_seek_59 : decode cX5_seek 59 = .ok (.aload_n 0, 1) := by decide +kernel
theorem dX5_seek_60 : decode cX5_seek 60 = .ok (.getfield 12, 3) := by decide +kernel
theorem dX5_seek_63 : decode cX5_seek 63 = .ok (.aload_n 1, 1) := by decide +kernel
theorem dX5_seek_64 : decode cX5_seek 64 = .ok (.invokevirtual 37, 3) := by decide +kernel
theorem dX5_seek_67 : decode cX5_seek 67 = .ok (.aload_n 0, 1) := by decide +kernel
theorem dX5_seek_68 : decode cX5_seek 68 = .ok (.iload_n 2, 1) := by decide +kernel
theorem dX5_seek_69 : decode cX5_seek 69 = .ok (.iload 6, 2) := by decide +kernel
theorem dX5_seek_71 : decode cX5_seek 71 = .ok (.invokevirtual 40, 3) := by decide +kernel
theorem dX5_seek_74 : decode cX5_seek 74 = .ok (.iconst 0, 1) := by decide +kernel
theorem dX5_seek_75 : decode cX5_seek 75 = .ok (.istore 7, 2) := by decide +kernel
theorem dX5_seek_77 : decode cX5_seek 77 = .ok (.iload 7, 2) := by decide +kernel
theorem dX5_seek_79 : decode cX5_seek 79 = .ok (.iload_n 3, 1) := by decide +kernel
theorem dX5_seek_80 : decode cX5_seek 80 = .ok (.if_icmp .ge 18, 3) := by decide +kernel
theorem dX5_seek_83 : decode cX5_seek 83 = .ok (.aload_n 0, 1) := by decide +kernel
theorem dX5_seek_84 : decode cX5_seek 84 = .ok (.getfield 12, 3) := by decide +kernel
theorem dX5_seek_87 : decode cX5_seek 87 = .ok (.iconst 0, 1) := by decide +kernel
theorem dX5_seek_88 : decode cX5_seek 88 = .ok (.invokevirtual 44, 3) := by decide +kernel
theorem dX5_seek_91 : decode cX5_seek 91 = .ok (.pop, 1) := by decide +kernel
theorem dX5_seek_92 : decode cX5_seek 92 = .ok (.iinc 7 1, 3) := by decide +kernel
theorem dX5_seek_95 : decode cX5_seek 95 = .ok (.goto (-18), 3) := by decide +kernel
theorem dX5_seek_98 : decode cX5_seek 98 = .ok (.aload_n 0, 1) := by decide +kernel
theorem dX5_seek_99 : decode cX5_seek 99 = .ok (.aload 4, 2) := by decide +kernel
theorem dX5_seek_101 : decode cX5_seek 101 = .ok (.invokevirtual 47, 3) := by decide +kernel
theorem dX5_seek_104 : decode cX5_seek 104 = .ok (.ifCond .eq 40, 3) := by decide +kernel
theorem dX5_seek_107 : decode cX5_seek 107 = .ok (.aload_n 0, 1) := by decide +kernel
theorem dX5_seek_108 : decode cX5_seek 108 = .ok (.aload_n 0, 1) := by decide +kernel
theorem dX5_seek_109 : decode cX5_seek 109 = .ok (.getfield 22, 3) := by decide +kernel
theorem dX5_seek_112 : decode cX5_seek 112 = .ok (.ifCond .ne 8, 3) := by decide +kernel
theorem dX5_seek_115 : decode cX5_seek 115 = .ok (.iload 6, 2) := by decide +kernel
theorem dX5_seek_117 : decode cX5_seek 117 = .ok (.goto 7, 3) := by decide +kernel
theorem dX5_seek_120 : decode cX5_seek 120 = .ok (.aload_n 0, 1) := by decide +kernel
theorem dX5_seek_121 : decode cX5_seek 121 = .ok (.getfield 26, 3) := by decide +kernel
theorem dX5_seek_124 : decode cX5_seek 124 = .ok (.putfield 26, 3) := by decide +kernel
theorem dX5_seek_127 : decode cX5_seek 127 = .ok (.aload_n 0, 1) := by decide +kernel
theorem dX5_seek_128 : decode cX5_seek 128 = .ok (.dup, 1) := by decide +kernel
theorem dX5_seek_129 : decode cX5_seek 129 = .ok (.getfield 22, 3) := by decide +kernel
theorem dX5_seek_132 : decode cX5_seek 132 = .ok (.iconst 1, 1) := by decide +kernel
theorem dX5_seek_133 : decode cX5_seek 133 = .ok (.iadd, 1) := by decide +kernel
theorem dX5_seek_134 : decode cX5_seek 134 = .ok (.putfield 22, 3) := by decide +kernel
theorem dX5_seek_137 : decode cX5_seek 137 = .ok (.aload_n 0, 1) := by decide +kernel
theorem dX5_seek_138 : decode cX5_seek 138 = .ok (.iload_n 2, 1) := by decide +kernel
theorem dX5_seek_139 : decode cX5_seek 139 = .ok (.iload 6, 2) := by decide +kernel
theorem dX5_seek_141 : decode cX5_seek 141 = .ok (.invokevirtual 51, 3) := by decide +kernel
theorem dX5_seek_144 : decode cX5_seek 144 = .ok (.iinc 6 1, 3) := by decide +kernel
theorem dX5_seek_147 : decode cX5_seek 147 = .ok (.goto (-95), 3) := by decide +kernel
theorem dX5_seek_150 : decode cX5_seek 150 = .ok (.return_, 1) := by decide +kernel
theorem dX5_howManyWays_0 : decode cX5_howManyWays 0 = .ok (.iconst 1, 1) := by decide +kernel
theorem dX5_howManyWays_1 : decode cX5_howManyWays 1 = .ok (.istore_n 1, 1) := by decide +kernel
theorem dX5_howManyWays_2 : decode cX5_howManyWays 2 = .ok (.iconst 0, 1) := by decide +kernel
theorem dX5_howManyWays_3 : decode cX5_howManyWays 3 = .ok (.istore_n 2, 1) := by decide +kernel
theorem dX5_howManyWays_4 : decode cX5_howManyWays 4 = .ok (.iload_n 2, 1) := by decide +kernel
theorem dX5_howManyWays_5 : decode cX5_howManyWays 5 = .ok (.bipush 6, 2) := by decide +kernel
theorem dX5_howManyWays_7 : decode cX5_howManyWays 7 = .ok (.if_icmp .ge 25, 3) := by decide +kernel
theorem dX5_howManyWays_10 : decode cX5_howManyWays 10 = .ok (.iload_n 1, 1) := by decide +kernel
theorem dX5_howManyWays_11 : decode cX5_howManyWays 11 = .ok (.iload_n 0, 1) := by decide +kernel
theorem dX5_howManyWays_12 : decode cX5_howManyWays 12 = .ok (.iload_n 2, 1) := by decide +kernel
theorem dX5_howManyWays_13 : decode cX5_howManyWays 13 = .ok (.invokestatic 54, 3) := by decide +kernel
theorem dX5_howManyWays_16 : decode cX5_howManyWays 16 = .ok (.ifCond .eq 7, 3) := by decide +kernel
theorem dX5_howManyWays_19 : decode cX5_howManyWays 19 = .ok (.iconst 5, 1) := by decide +kernel
theorem dX5_howManyWays_20 : decode cX5_howManyWays 20 = .ok (.goto 4, 3) := by decide +kernel
theorem dX5_howManyWays_23 : decode cX5_howManyWays 23 = .ok (.iconst 1, 1) := by decide +kernel
theorem dX5_howManyWays_24 : decode cX5_howManyWays 24 = .ok (.imul, 1) := by decide +kernel
theorem dX5_howManyWays_25 : decode cX5_howManyWays 25 = .ok (.istore_n 1, 1) := by decide +kernel
theorem dX5_howManyWays_26 : decode cX5_howManyWays 26 = .ok (.iinc 2 1, 3) := by decide +kernel
theorem dX5_howManyWays_29 : decode cX5_howManyWays 29 = .ok (.goto (-25), 3) := by decide +kernel
theorem dX5_howManyWays_32 : decode cX5_howManyWays 32 = .ok (.iload_n 1, 1) := by decide +kernel
theorem dX5_howManyWays_33 : decode cX5_howManyWays 33 = .ok (.ireturn, 1) := by decide +kernel
theorem dX5_giveWants_0 : decode cX5_giveWants 0 = .ok (.iconst 5, 1) := by decide +kernel
theorem dX5_giveWants_1 : decode cX5_giveWants 1 = .ok (.istore_n 3, 1) := by decide +kernel
theorem dX5_giveWants_2 : decode cX5_giveWants 2 = .ok (.iload_n 3, 1) := by decide +kernel
theorem dX5_giveWants_3 : decode cX5_giveWants 3 = .ok (.ifCond .lt 33, 3) := by decide +kernel
theorem dX5_giveWants_6 : decode cX5_giveWants 6 = .ok (.iload_n 1, 1) := by decide +kernel
theorem dX5_giveWants_7 : decode cX5_giveWants 7 = .ok (.iload_n 3, 1) := by decide +kernel
theorem dX5_giveWants_8 : decode cX5_giveWants 8 = .ok (.invokestatic 54, 3) := by decide +kernel
theorem dX5_giveWants_11 : decode cX5_giveWants 11 = .ok (.ifCond .eq 19, 3) := by decide +kernel
theorem dX5_giveWants_14 : decode cX5_giveWants 14 = .ok (.aload_n 0, 1) := by decide +kernel
theorem dX5_giveWants_15 : decode cX5_giveWants 15 = .ok (.getfield 12, 3) := by decide +kernel
theorem dX5_giveWants_18 : decode cX5_giveWants 18 = .ok (.getfield 58, 3) := by decide +kernel
theorem dX5_giveWants_21 : decode cX5_giveWants 21 = .ok (.iload_n 3, 1) := by decide +kernel
theorem dX5_giveWants_22 : decode cX5_giveWants 22 = .ok (.iload_n 2, 1) := by decide +kernel
theorem dX5_giveWants_23 : decode cX5_giveWants 23 = .ok (.iconst 5, 1) := by decide +kernel
theorem dX5_giveWants_24 : decode cX5_giveWants 24 = .ok (.irem, 1) := by decide +kernel
theorem dX5_giveWants_25 : decode cX5_giveWants 25 = .ok (.iastore, 1) := by decide +kernel
theorem dX5_giveWants_26 : decode cX5_giveWants 26 = .ok (.iload_n 2, 1) := by decide +kernel
theorem dX5_giveWants_27 : decode cX5_giveWants 27 = .ok (.iconst 5, 1) := by decide +kernel
theorem dX5_giveWants_28 : decode cX5_giveWants 28 = .ok (.idiv, 1) := by decide +kernel
theorem dX5_giveWants_29 : decode cX5_giveWants 29 = .ok (.istore_n 2, 1) := by decide +kernel
theorem dX5_giveWants_30 : decode cX5_giveWants 30 = .ok (.iinc 3 (-1), 3) := by decide +kernel
theorem dX5_giveWants_33 : decode cX5_giveWants 33 = .ok (.goto (-31), 3) := by decide +kernel
theorem dX5_giveWants_36 : decode cX5_giveWants 36 = .ok (.return_, 1) := by decide +kernel
theorem dX5_noteWants_0 : decode cX5_noteWants 0 = .ok (.iconst 5, 1) := by decide +kernel
theorem dX5_noteWants_1 : decode cX5_noteWants 1 = .ok (.istore_n 3, 1) := by decide +kernel
theorem dX5_noteWants_2 : decode cX5_noteWants 2 = .ok (.iload_n 3, 1) := by decide +kernel
theorem dX5_noteWants_3 : decode cX5_noteWants 3 = .ok (.ifCond .lt 35, 3) := by decide +kernel
theorem dX5_noteWants_6 : decode cX5_noteWants 6 = .ok (.iload_n 1, 1) := by decide +kernel
theorem dX5_noteWants_7 : decode cX5_noteWants 7 = .ok (.iload_n 3, 1) := by decide +kernel
theorem dX5_noteWants_8 : decode cX5_noteWants 8 = .ok (.invokestatic 54, 3) := by decide +kernel
theorem dX5_noteWants_11 : decode cX5_noteWants 11 = .ok (.ifCond .eq 21, 3) := by decide +kernel
theorem dX5_noteWants_14 : decode cX5_noteWants 14 = .ok (.aload_n 0, 1) := by decide +kernel
theorem dX5_noteWants_15 : decode cX5_noteWants 15 = .ok (.getfield 18, 3) := by decide +kernel
theorem dX5_noteWants_18 : decode cX5_noteWants 18 = .ok (.iload_n 3, 1) := by decide +kernel
theorem dX5_noteWants_19 : decode cX5_noteWants 19 = .ok (.dup2, 1) := by decide +kernel
theorem dX5_noteWants_20 : decode cX5_noteWants 20 = .ok (.iaload, 1) := by decide +kernel
theorem dX5_noteWants_21 : decode cX5_noteWants 21 = .ok (.iconst 1, 1) := by decide +kernel
theorem dX5_noteWants_22 : decode cX5_noteWants 22 = .ok (.iload_n 2, 1) := by decide +kernel
theorem dX5_noteWants_23 : decode cX5_noteWants 23 = .ok (.iconst 5, 1) := by decide +kernel
theorem dX5_noteWants_24 : decode cX5_noteWants 24 = .ok (.irem, 1) := by decide +kernel
theorem dX5_noteWants_25 : decode cX5_noteWants 25 = .ok (.ishl, 1) := by decide +kernel
theorem dX5_noteWants_26 : decode cX5_noteWants 26 = .ok (.ior, 1) := by decide +kernel
theorem dX5_noteWants_27 : decode cX5_noteWants 27 = .ok (.iastore, 1) := by decide +kernel
theorem dX5_noteWants_28 : decode cX5_noteWants 28 = .ok (.iload_n 2, 1) := by decide +kernel
theorem dX5_noteWants_29 : decode cX5_noteWants 29 = .ok (.iconst 5, 1) := by decide +kernel
theorem dX5_noteWants_30 : decode cX5_noteWants 30 = .ok (.idiv, 1) := by decide +kernel
theorem dX5_noteWants_31 : decode cX5_noteWants 31 = .ok (.istore_n 2, 1) := by decide +kernel
theorem dX5_noteWants_32 : decode cX5_noteWants 32 = .ok (.iinc 3 (-1), 3) := by decide +kernel
theorem dX5_noteWants_35 : decode cX5_noteWants 35 = .ok (.goto (-33), 3) := by decide +kernel
theorem dX5_noteWants_38 : decode cX5_noteWants 38 = .ok (.return_, 1) := by decide +kernel
theorem dX5_isAsSeen_0 : decode cX5_isAsSeen 0 = .ok (.iconst 0, 1) := by decide +kernel
theorem dX5_isAsSeen_1 : decode cX5_isAsSeen 1 = .ok (.istore_n 2, 1) := by decide +kernel
theorem dX5_isAsSeen_2 : decode cX5_isAsSeen 2 = .ok (.iload_n 2, 1) := by decide +kernel
theorem dX5_isAsSeen_3 : decode cX5_isAsSeen 3 = .ok (.aload_n 0, 1) := by decide +kernel
theorem dX5_isAsSeen_4 : decode cX5_isAsSeen 4 = .ok (.getfield 12, 3) := by decide +kernel
theorem dX5_isAsSeen_7 : decode cX5_isAsSeen 7 = .ok (.getfield 61, 3) := by decide +kernel
theorem dX5_isAsSeen_10 : decode cX5_isAsSeen 10 = .ok (.if_icmp .ge 38, 3) := by decide +kernel
theorem dX5_isAsSeen_13 : decode cX5_isAsSeen 13 = .ok (.aload_n 1, 1) := by decide +kernel
theorem dX5_isAsSeen_14 : decode cX5_isAsSeen 14 = .ok (.iload_n 2, 1) := by decide +kernel
theorem dX5_isAsSeen_15 : decode cX5_isAsSeen 15 = .ok (.invokevirtual 64, 3) := by decide +kernel
theorem dX5_isAsSeen_18 : decode cX5_isAsSeen 18 = .ok (.bipush (-9), 2) := by decide +kernel
theorem dX5_isAsSeen_20 : decode cX5_isAsSeen 20 = .ok (.if_icmp .eq 22, 3) := by decide +kernel
theorem dX5_isAsSeen_23 : decode cX5_isAsSeen 23 = .ok (.aload_n 1, 1) := by decide +kernel
theorem dX5_isAsSeen_24 : decode cX5_isAsSeen 24 = .ok (.iload_n 2, 1) := by decide +kernel
theorem dX5_isAsSeen_25 : decode cX5_isAsSeen 25 = .ok (.invokevirtual 64, 3) := by decide +kernel
theorem dX5_isAsSeen_28 : decode cX5_isAsSeen 28 = .ok (.aload_n 0, 1) := by decide +kernel
theorem dX5_isAsSeen_29 : decode cX5_isAsSeen 29 = .ok (.getfield 12, 3) := by decide +kernel
theorem dX5_isAsSeen_32 : decode cX5_isAsSeen 32 = .ok (.getfield 69, 3) := by decide +kernel
theorem dX5_isAsSeen_35 : decode cX5_isAsSeen 35 = .ok (.iload_n 2, 1) := by decide +kernel
theorem dX5_isAsSeen_36 : decode cX5_isAsSeen 36 = .ok (.iaload, 1) := by decide +kernel
theorem dX5_isAsSeen_37 : decode cX5_isAsSeen 37 = .ok (.if_icmp .eq 5, 3) := by decide +kernel
theorem dX5_isAsSeen_40 : decode cX5_isAsSeen 40 = .ok (.iconst 0, 1) := by decide +kernel
theorem dX5_isAsSeen_41 : decode cX5_isAsSeen 41 = .ok (.ireturn, 1) := by decide +kernel
theorem dX5_isAsSeen_42 : decode cX5_isAsSeen 42 = .ok (.iinc 2 1, 3) := by decide +kernel
theorem dX5_isAsSeen_45 : decode cX5_isAsSeen 45 = .ok (.goto (-43), 3) := by decide +kernel
theorem dX5_isAsSeen_48 : decode cX5_isAsSeen 48 = .ok (.iconst 1, 1) := by decide +kernel
theorem dX5_isAsSeen_49 : decode cX5_isAsSeen 49 = .ok (.ireturn, 1) := by decide +kernel
theorem dX6_init_0 : decode cX6_init 0 = .ok (.aload_n 0, 1) := by decide +kernel
theorem dX6_init_1 : decode cX6_init 1 = .ok (.invokespecial 1, 3) := by decide +kernel
theorem dX6_init_4 : decode cX6_init 4 = .ok (.aload_n 0, 1) := by decide +kernel
theorem dX6_init_5 : decode cX6_init 5 = .ok (.bipush 6, 2) := by decide +kernel
theorem dX6_init_7 : decode cX6_init 7 = .ok (.anewarray 9, 3) := by decide +kernel
theorem dX6_init_10 : decode cX6_init 10 = .ok (.putfield 11, 3) := by decide +kernel
theorem dX6_init_13 : decode cX6_init 13 = .ok (.aload_n 0, 1) := by decide +kernel
theorem dX6_init_14 : decode cX6_init 14 = .ok (.iconst 4, 1) := by decide +kernel
theorem dX6_init_15 : decode cX6_init 15 = .ok (.anewarray 9, 3) := by decide +kernel
theorem dX6_init_18 : decode cX6_init 18 = .ok (.putfield 15, 3) := by decide +kernel
theorem dX6_init_21 : decode cX6_init 21 = .ok (.aload_n 0, 1) := by decide +kernel
theorem dX6_init_22 : decode cX6_init 22 = .ok (.new 18, 3) := by decide +kernel
theorem dX6_init_25 : decode cX6_init 25 = .ok (.dup, 1) := by decide +kernel
theorem dX6_init_26 : decode cX6_init 26 = .ok (.invokespecial 20, 3) := by decide +kernel
theorem dX6_init_29 : decode cX6_init 29 = .ok (.putfield 21, 3) := by decide +kernel
theorem dX6_init_32 : decode cX6_init 32 = .ok (.aload_n 0, 1) := by decide +kernel
theorem dX6_init_33 : decode cX6_init 33 = .ok (.iconst 3, 1) := by decide +kernel
theorem dX6_init_34 : decode cX6_init 34 = .ok (.anewarray 18, 3) := by decide +kernel
theorem dX6_init_37 : decode cX6_init 37 = .ok (.putfield 25, 3) := by decide +kernel
theorem dX6_init_40 : decode cX6_init 40 = .ok (.aload_n 0, 1) := by decide +kernel
theorem dX6_init_41 : decode cX6_init 41 = .ok (.new 29, 3) := by decide +kernel
theorem dX6_init_44 : decode cX6_init 44 = .ok (.dup, 1) := by decide +kernel
theorem dX6_init_45 : decode cX6_init 45 = .ok (.invokespecial 31, 3) := by decide +kernel
theorem dX6_init_48 : decode cX6_init 48 = .ok (.putfield 32, 3) := by decide +kernel
theorem dX6_init_51 : decode cX6_init 51 = .ok (.aload_n 0, 1) := by decide +kernel
theorem dX6_init_52 : decode cX6_init 52 = .ok (.new 36, 3) := by decide +kernel
theorem dX6_init_55 : decode cX6_init 55 = .ok (.dup, 1) := by decide +kernel
theorem dX6_init_56 : decode cX6_init 56 = .ok (.invokespecial 38, 3) := by decide +kernel
theorem dX6_init_59 : decode cX6_init 59 = .ok (.putfield 39, 3) := by decide +kernel
theorem dX6_init_62 : decode cX6_init 62 = .ok (.aload_n 0, 1) := by decide +kernel
theorem dX6_init_63 : decode cX6_init 63 = .ok (.new 43, 3) := by decide +kernel
theorem dX6_init_66 : decode cX6_init 66 = .ok (.dup, 1) := by decide +kernel
theorem dX6_init_67 : decode cX6_init 67 = .ok (.invokespecial 45, 3) := by decide +kernel
theorem dX6_init_70 : decode cX6_init 70 = .ok (.putfield 46, 3) := by decide +kernel
theorem dX6_init_73 : decode cX6_init 73 = .ok (.aload_n 0, 1) := by decide +kernel
theorem dX6_init_74 : decode cX6_init 74 = .ok (.new 50, 3) := by decide +kernel
theorem dX6_init_77 : decode cX6_init 77 = .ok (.dup, 1) := by decide +kernel
theorem dX6_init_78 : decode cX6_init 78 = .ok (.invokespecial 52, 3) := by decide +kernel
theorem dX6_init_81 : decode cX6_init 81 = .ok (.putfield 53, 3) := by decide +kernel
theorem dX6_init_84 : decode cX6_init 84 = .ok (.aload_n 0, 1) := by decide +kernel
theorem dX6_init_85 : decode cX6_init 85 = .ok (.bipush 6, 2) := by decide +kernel
theorem dX6_init_87 : decode cX6_init 87 = .ok (.newarray .int, 2) := by decide +kernel
theorem dX6_init_89 : decode cX6_init 89 = .ok (.putfield 57, 3) := by decide +kernel
theorem dX6_init_92 : decode cX6_init 92 = .ok (.iconst 0, 1) := by decide +kernel
theorem dX6_init_93 : decode cX6_init 93 = .ok (.istore_n 1, 1) := by decide +kernel
theorem dX6_init_94 : decode cX6_init 94 = .ok (.iload_n 1, 1) := by decide +kernel
theorem dX6_init_95 : decode cX6_init 95 = .ok (.bipush 6, 2) := by decide +kernel
theorem dX6_init_97 : decode cX6_init 97 = .ok (.if_icmp .ge 24, 3) := by decide +kernel
theorem dX6_init_100 : decode cX6_init 100 = .ok (.aload_n 0, 1) := by decide +kernel
theorem dX6_init_101 : decode cX6_init 101 = .ok (.getfield 11, 3) := by decide +kernel
theorem dX6_init_104 : decode cX6_init 104 = .ok (.iload_n 1, 1) := by decide +kernel
theorem dX6_init_105 : decode cX6_init 105 = .ok (.new 9, 3) := by decide +kernel
theorem dX6_init_108 : decode cX6_init 108 = .ok (.dup, 1) := by decide +kernel
theorem dX6_init_109 : decode cX6_init 109 = .ok (.bipush 40, 2) := by decide +kernel
theorem dX6_init_111 : decode cX6_init 111 = .ok (.invokespecial 61, 3) := by decide +kernel
theorem dX6_init_114 : decode cX6_init 114 = .ok (.aastore, 1) := by decide +kernel
theorem dX6_init_115 : decode cX6_init 115 = .ok (.iinc 1 1, 3) := by decide +kernel
theorem dX6_init_118 : decode cX6_init 118 = .ok (.goto (-24), 3) := by decide +kernel
theorem dX6_init_121 : decode cX6_init 121 = .ok (.iconst 0, 1) := by decide +kernel
theorem dX6_init_122 : decode cX6_init 122 = .ok (.istore_n 1, 1) := by decide +kernel
theorem dX6_init_123 : decode cX6_init 123 = .ok (.iload_n 1, 1) := by decide +kernel
theorem dX6_init_124 : decode cX6_init 124 = .ok (.iconst 4, 1) := by decide +kernel
theorem dX6_init_125 : decode cX6_init 125 = .ok (.if_icmp .ge 24, 3) := by decide +kernel
theorem dX6_init_128 : decode cX6_init 128 = .ok (.aload_n 0, 1) := by decide +kernel
theorem dX6_init_129 : decode cX6_init 129 = .ok (.getfield 15, 3) := by decide +kernel
theorem dX6_init_132 : decode cX6_init 132 = .ok (.iload_n 1, 1) := by decide +kernel
theorem dX6_init_133 : decode cX6_init 133 = .ok (.new 9, 3) := by decide +kernel
theorem dX6_init_136 : decode cX6_init 136 = .ok (.dup, 1) := by decide +kernel
theorem dX6_init_137 : decode cX6_init 137 = .ok (.bipush 80, 2) := by decide +kernel
theorem dX6_init_139 : decode cX6_init 139 = .ok (.invokespecial 61, 3) := by decide +kernel
theorem dX6_init_142 : decode cX6_init 142 = .ok (.aastore, 1) := by decide +kernel
theorem dX6_init_143 : decode cX6_init 143 = .ok (.iinc 1 1, 3) := by decide +kernel
theorem dX6_init_146 : decode cX6_init 146 = .ok (.goto (-23), 3) := by decide +kernel
theorem dX6_init_149 : decode cX6_init 149 = .ok (.iconst 0, 1) := by decide +kernel
theorem dX6_init_150 : decode cX6_init 150 = .ok (.istore_n 1, 1) := by decide +kernel
theorem dX6_init_151 : decode cX6_init 151 = .ok (.iload_n 1, 1) := by decide +kernel
theorem dX6_init_152 : decode cX6_init 152 = .ok (.iconst 3, 1) := by decide +kernel
theorem dX6_init_153 : decode cX6_init 153 = .ok (.if_icmp .ge 22, 3) := by decide +kernel
theorem dX6_init_156 : decode cX6_init 156 = .ok (.aload_n 0, 1) := by decide +kernel
theorem dX6_init_157 : decode cX6_init 157 = .ok (.getfield 25, 3) := by decide +kernel
theorem dX6_init_160 : decode cX6_init 160 = .ok (.iload_n 1, 1) := by decide +kernel
theorem dX6_init_161 : decode cX6_init 161 = .ok (.new 18, 3) := by decide +kernel
theorem dX6_init_164 : decode cX6_init 164 = .ok (.dup, 1) := by decide +kernel
theorem dX6_init_165 : decode cX6_init 165 = .ok (.invokespecial 20, 3) := by decide +kernel
theorem dX6_init_168 : decode cX6_init 168 = .ok (.aastore, 1) := by decide +kernel
theorem dX6_init_169 : decode cX6_init 169 = .ok (.iinc 1 1, 3) := by decide +kernel
theorem dX6_init_172 : decode cX6_init 172 = .ok (.goto (-21), 3) := by decide +kernel
theorem dX6_init_175 : decode cX6_init 175 = .ok (.return_, 1) := by decide +kernel
theorem dX6_row_0 : decode cX6_row 0 = .ok (.iload_n 1, 1) := by decide +kernel
theorem dX6_row_1 : decode cX6_row 1 = .ok (.bipush 6, 2) := by decide +kernel
theorem dX6_row_3 : decode cX6_row 3 = .ok (.invokestatic 64, 3) := by decide +kernel
theorem dX6_row_6 : decode cX6_row 6 = .ok (.ifCond .eq 9, 3) := by decide +kernel
theorem dX6_row_9 : decode cX6_row 9 = .ok (.iload_n 2, 1) := by decide +kernel
theorem dX6_row_10 : decode cX6_row 10 = .ok (.bipush 40, 2) := by decide +kernel
theorem dX6_row_12 : decode cX6_row 12 = .ok (.if_icmp .le 5, 3) := by decide +kernel
theorem dX6_row_15 : decode cX6_row 15 = .ok (.iconst (-1), 1) := by decide +kernel
theorem dX6_row_16 : decode cX6_row 16 = .ok (.ireturn, 1) := by decide +kernel
theorem dX6_row_17 : decode cX6_row 17 = .ok (.iload_n 2, 1) := by decide +kernel
theorem dX6_row_18 : decode cX6_row 18 = .ok (.ifCond .ge 9, 3) := by decide +kernel
theorem dX6_row_21 : decode cX6_row 21 = .ok (.aload_n 0, 1) := by decide +kernel
theorem dX6_row_22 : decode cX6_row 22 = .ok (.iconst 5, 1) := by decide +kernel
theorem dX6_row_23 : decode cX6_row 23 = .ok (.invokevirtual 68, 3) := by decide +kernel
theorem dX6_row_26 : decode cX6_row 26 = .ok (.ireturn, 1) := by decide +kernel
theorem dX6_row_27 : decode cX6_row 27 = .ok (.aload_n 0, 1) := by decide +kernel
theorem dX6_row_28 : decode cX6_row 28 = .ok (.getfield 11, 3) := by decide +kernel
theorem dX6_row_31 : decode cX6_row 31 = .ok (.iload_n 1, 1) := by decide +kernel
theorem dX6_row_32 : decode cX6_row 32 = .ok (.aaload, 1) := by decide +kernel
theorem dX6_row_33 : decode cX6_row 33 = .ok (.iload_n 2, 1) := by decide +kernel
theorem dX6_row_34 : decode cX6_row 34 = .ok (.iconst 0, 1) := by decide +kernel
theorem dX6_row_35 : decode cX6_row 35 = .ok (.invokevirtual 72, 3) := by decide +kernel
theorem dX6_row_38 : decode cX6_row 38 = .ok (.iload_n 2, 1) := by decide +kernel
theorem dX6_row_39 : decode cX6_row 39 = .ok (.ireturn, 1) := by decide +kernel
theorem dX6_lay_0 : decode cX6_lay 0 = .ok (.iload_n 1, 1) := by decide +kernel
theorem dX6_lay_1 : decode cX6_lay 1 = .ok (.bipush 6, 2) := by decide +kernel
theorem dX6_lay_3 : decode cX6_lay 3 = .ok (.invokestatic 64, 3) := by decide +kernel
theorem dX6_lay_6 : decode cX6_lay 6 = .ok (.ifCond .ne 5, 3) := by decide +kernel
theorem dX6_lay_9 : decode cX6_lay 9 = .ok (.iconst (-1), 1) := by decide +kernel
theorem dX6_lay_10 : decode cX6_lay 10 = .ok (.ireturn, 1) := by decide +kernel
theorem dX6_lay_11 : decode cX6_lay 11 = .ok (.aload_n 0, 1) := by decide +kernel
theorem dX6_lay_12 : decode cX6_lay 12 = .ok (.aload_n 0, 1) := by decide +kernel
theorem dX6_lay_13 : decode cX6_lay 13 = .ok (.getfield 11, 3) := by decide +kernel
theorem dX6_lay_16 : decode cX6_lay 16 = .ok (.iload_n 1, 1) := by decide +kernel
theorem dX6_lay_17 : decode cX6_lay 17 = .ok (.aaload, 1) := by decide +kernel
theorem dX6_lay_18 : decode cX6_lay 18 = .ok (.iload_n 2, 1) := by decide +kernel
theorem dX6_lay_19 : decode cX6_lay 19 = .ok (.invokevirtual 76, 3) := by decide +kernel
theorem dX6_lay_22 : decode cX6_lay 22 = .ok (.istore 4, 2) := by decide +kernel
theorem dX6_lay_24 : decode cX6_lay 24 = .ok (.iload 4, 2) := by decide +kernel
theorem dX6_lay_26 : decode cX6_lay 26 = .ok (.ifCond .eq 10, 3) := by decide +kernel
theorem dX6_lay_29 : decode cX6_lay 29 = .ok (.aload_n 0, 1) := by decide +kernel
theorem dX6_lay_30 : decode cX6_lay 30 = .ok (.iload 4, 2) := by decide +kernel
theorem dX6_lay_32 : decode cX6_lay 32 = .ok (.invokevirtual 68, 3) := by decide +kernel
theorem dX6_lay_35 : decode cX6_lay 35 = .ok (.ireturn, 1) := by decide +kernel
theorem dX6_lay_36 : decode cX6_lay 36 = .ok (.aload_n 0, 1) := by decide +kernel
theorem dX6_lay_37 : decode cX6_lay 37 = .ok (.aload_n 0, 1) := by decide +kernel
theorem dX6_lay_38 : decode cX6_lay 38 = .ok (.getfield 11, 3) := by decide +kernel
theorem dX6_lay_41 : decode cX6_lay 41 = .ok (.iload_n 1, 1) := by decide +kernel
theorem dX6_lay_42 : decode cX6_lay 42 = .ok (.aaload, 1) := by decide +kernel
theorem dX6_lay_43 : decode cX6_lay 43 = .ok (.iload_n 2, 1) := by decide +kernel
theorem dX6_lay_44 : decode cX6_lay 44 = .ok (.iload_n 3, 1) := by decide +kernel
theorem dX6_lay_45 : decode cX6_lay 45 = .ok (.invokevirtual 80, 3) := by decide +kernel
theorem dX6_lay_48 : decode cX6_lay 48 = .ok (.invokevirtual 84, 3) := by decide +kernel
theorem dX6_lay_51 : decode cX6_lay 51 = .ok (.ireturn, 1) := by decide +kernel
theorem dX6_at_0 : decode cX6_at 0 = .ok (.iload_n 1, 1) := by decide +kernel
theorem dX6_at_1 : decode cX6_at 1 = .ok (.bipush 6, 2) := by decide +kernel
theorem dX6_at_3 : decode cX6_at 3 = .ok (.invokestatic 64, 3) := by decide +kernel
theorem dX6_at_6 : decode cX6_at 6 = .ok (.ifCond .ne 5, 3) := by decide +kernel
theorem dX6_at_9 : decode cX6_at 9 = .ok (.iconst (-1), 1) := by decide +kernel
theorem dX6_at_10 : decode cX6_at 10 = .ok (.ireturn, 1) := by decide +kernel
theorem dX6_at_11 : decode cX6_at 11 = .ok (.aload_n 0, 1) := by decide +kernel
theorem dX6_at_12 : decode cX6_at 12 = .ok (.aload_n 0, 1) := by decide +kernel
theorem dX6_at_13 : decode cX6_at 13 = .ok (.getfield 11, 3) := by decide +kernel
theorem dX6_at_16 : decode cX6_at 16 = .ok (.iload_n 1, 1) := by decide +kernel
theorem dX6_at_17 : decode cX6_at 17 = .ok (.aaload, 1) := by decide +kernel
theorem dX6_at_18 : decode cX6_at 18 = .ok (.iload_n 2, 1) := by decide +kernel
theorem dX6_at_19 : decode cX6_at 19 = .ok (.invokevirtual 76, 3) := by decide +kernel
theorem dX6_at_22 : decode cX6_at 22 = .ok (.istore_n 3, 1) := by decide +kernel
theorem dX6_at_23 : decode cX6_at 23 = .ok (.iload_n 3, 1) := by decide +kernel
theorem dX6_at_24 : decode cX6_at 24 = .ok (.ifCond .eq 9, 3) := by decide +kernel
theorem dX6_at_27 : decode cX6_at 27 = .ok (.aload_n 0, 1) := by decide +kernel
theorem dX6_at_28 : decode cX6_at 28 = .ok (.iload_n 3, 1) := by decide +kernel
theorem dX6_at_29 : decode cX6_at 29 = .ok (.invokevirtual 68, 3) := by decide +kernel
theorem dX6_at_32 : decode cX6_at 32 = .ok (.ireturn, 1) := by decide +kernel
theorem dX6_at_33 : decode cX6_at 33 = .ok (.aload_n 0, 1) := by decide +kernel
theorem dX6_at_34 : decode cX6_at 34 = .ok (.aload_n 0, 1) := by decide +kernel
theorem dX6_at_35 : decode cX6_at 35 = .ok (.getfield 11, 3) := by decide +kernel
theorem dX6_at_38 : decode cX6_at 38 = .ok (.iload_n 1, 1) := by decide +kernel
theorem dX6_at_39 : decode cX6_at 39 = .ok (.aaload, 1) := by decide +kernel
theorem dX6_at_40 : decode cX6_at 40 = .ok (.iload_n 2, 1) := by decide +kernel
theorem dX6_at_41 : decode cX6_at 41 = .ok (.invokevirtual 87, 3) := by decide +kernel
theorem dX6_at_44 : decode cX6_at 44 = .ok (.invokevirtual 84, 3) := by decide +kernel
theorem dX6_at_47 : decode cX6_at 47 = .ok (.ireturn, 1) := by decide +kernel
theorem dX6_tear_0 : decode cX6_tear 0 = .ok (.iload_n 1, 1) := by decide +kernel
theorem dX6_tear_1 : decode cX6_tear 1 = .ok (.bipush 6, 2) := by decide +kernel
theorem dX6_tear_3 : decode cX6_tear 3 = .ok (.invokestatic 64, 3) := by decide +kernel
theorem dX6_tear_6 : decode cX6_tear 6 = .ok (.ifCond .ne 5, 3) := by decide +kernel
theorem dX6_tear_9 : decode cX6_tear 9 = .ok (.iconst (-1), 1) := by decide +kernel
theorem dX6_tear_10 : decode cX6_tear 10 = .ok (.ireturn, 1) := by decide +kernel
theorem dX6_tear_11 : decode cX6_tear 11 = .ok (.aload_n 0, 1) := by decide +kernel
theorem dX6_tear_12 : decode cX6_tear 12 = .ok (.getfield 11, 3) := by decide +kernel
theorem dX6_tear_15 : decode cX6_tear 15 = .ok (.iload_n 1, 1) := by decide +kernel
theorem dX6_tear_16 : decode cX6_tear 16 = .ok (.aaload, 1) := by decide +kernel
theorem dX6_tear_17 : decode cX6_tear 17 = .ok (.invokevirtual 90, 3) := by decide +kernel
theorem dX6_tear_20 : decode cX6_tear 20 = .ok (.ifCond .ne 9, 3) := by decide +kernel
theorem dX6_tear_23 : decode cX6_tear 23 = .ok (.aload_n 0, 1) := by decide +kernel
theorem dX6_tear_24 : decode cX6_tear 24 = .ok (.iconst 1, 1) := by decide +kernel
theorem dX6_tear_25 : decode cX6_tear 25 = .ok (.invokevirtual 68, 3) := by decide +kernel
theorem dX6_tear_28 : decode cX6_tear 28 = .ok (.ireturn, 1) := by decide +kernel
theorem dX6_tear_29 : decode cX6_tear 29 = .ok (.aload_n 0, 1) := by decide +kernel
theorem dX6_tear_30 : decode cX6_tear 30 = .ok (.getfield 11, 3) := by decide +kernel
theorem dX6_tear_33 : decode cX6_tear 33 = .ok (.iload_n 1, 1) := by decide +kernel
theorem dX6_tear_34 : decode cX6_tear 34 = .ok (.aaload, 1) := by decide +kernel
theorem dX6_tear_35 : decode cX6_tear 35 = .ok (.invokevirtual 94, 3) := by decide +kernel
theorem dX6_tear_38 : decode cX6_tear 38 = .ok (.iconst 1, 1) := by decide +kernel
theorem dX6_tear_39 : decode cX6_tear 39 = .ok (.ireturn, 1) := by decide +kernel
theorem dX6_copy_0 : decode cX6_copy 0 = .ok (.iload_n 1, 1) := by decide +kernel
theorem dX6_copy_1 : decode cX6_copy 1 = .ok (.bipush 6, 2) := by decide +kernel
theorem dX6_copy_3 : decode cX6_copy 3 = .ok (.invokestatic 64, 3) := by decide +kernel
theorem dX6_copy_6 : decode cX6_copy 6 = .ok (.ifCond .eq 12, 3) := by decide +kernel
theorem dX6_copy_9 : decode cX6_copy 9 = .ok (.iload_n 3, 1) := by decide +kernel
theorem dX6_copy_10 : decode cX6_copy 10 = .ok (.bipush 6, 2) := by decide +kernel
theorem dX6_copy_12 : decode cX6_copy 12 = .ok (.invokestatic 64, 3) := by decide +kernel
theorem dX6_copy_15 : decode cX6_copy 15 = .ok (.ifCond .ne 5, 3) := by decide +kernel
theorem dX6_copy_18 : decode cX6_copy 18 = .ok (.iconst (-1), 1) := by decide +kernel
theorem dX6_copy_19 : decode cX6_copy 19 = .ok (.ireturn, 1) := by decide +kernel
theorem dX6_copy_20 : decode cX6_copy 20 = .ok (.iload 5, 2) := by decide +kernel
theorem dX6_copy_22 : decode cX6_copy 22 = .ok (.ifCond .ge 9, 3) := by decide +kernel
theorem dX6_copy_25 : decode cX6_copy 25 = .ok (.aload_n 0, 1) := by decide +kernel
theorem dX6_copy_26 : decode cX6_copy 26 = .ok (.iconst 5, 1) := by decide +kernel
theorem dX6_copy_27 : decode cX6_copy 27 = .ok (.invokevirtual 68, 3) := by decide +kernel
theorem dX6_copy_30 : decode cX6_copy 30 = .ok (.ireturn, 1) := by decide +kernel
theorem dX6_copy_31 : decode cX6_copy 31 = .ok (.aload_n 0, 1) := by decide +kernel
theorem dX6_copy_32 : decode cX6_copy 32 = .ok (.getfield 11, 3) := by decide +kernel
theorem dX6_copy_35 : decode cX6_copy 35 = .ok (.iload_n 1, 1) := by decide +kernel
theorem dX6_copy_36 : decode cX6_copy 36 = .ok (.aaload, 1) := by decide +kernel
theorem dX6_copy_37 : decode cX6_copy 37 = .ok (.invokevirtual 90, 3) := by decide +kernel
theorem dX6_copy_40 : decode cX6_copy 40 = .ok (.ifCond .eq 15, 3) := by decide +kernel
theorem dX6_copy_43 : decode cX6_copy 43 = .ok (.aload_n 0, 1) := by decide +kernel
theorem dX6_copy_44 : decode cX6_copy 44 = .ok (.getfield 11, 3) := by decide +kernel
theorem dX6_copy_47 : decode cX6_copy 47 = .ok (.iload_n 3, 1) := by decide +kernel
theorem dX6_copy_48 : decode cX6_copy 48 = .ok (.aaload, 1) := by decide +kernel
theorem dX6_copy_49 : decode cX6_copy 49 = .ok (.invokevirtual 90, 3) := by decide +kernel
theorem dX6_copy_52 : decode cX6_copy 52 = .ok (.ifCond .ne 9, 3) := by decide +kernel
theorem dX6_copy_55 : decode cX6_copy 55 = .ok (.aload_n 0, 1) := by decide +kernel
theorem dX6_copy_56 : decode cX6_copy 56 = .ok (.iconst 1, 1) := by decide +kernel
theorem dX6_copy_57 : decode cX6_copy 57 = .ok (.invokevirtual 68, 3) := by decide +kernel
theorem dX6_copy_60 : decode cX6_copy 60 = .ok (.ireturn, 1) := by decide +kernel
theorem dX6_copy_61 : decode cX6_copy 61 = .ok (.aload_n 0, 1) := by decide +kernel
theorem dX6_copy_62 : decode cX6_copy 62 = .ok (.getfield 11, 3) := by decide +kernel
theorem dX6_copy_65 : decode cX6_copy 65 = .ok (.iload_n 1, 1) := by decide +kernel
theorem dX6_copy_66 : decode cX6_copy 66 = .ok (.aaload, 1) := by decide +kernel
theorem dX6_copy_67 : decode cX6_copy 67 = .ok (.iload_n 2, 1) := by decide +kernel
theorem dX6_copy_68 : decode cX6_copy 68 = .ok (.iload 5, 2) := by decide +kernel
theorem dX6_copy_70 : decode cX6_copy 70 = .ok (.invokevirtual 97, 3) := by decide +kernel
theorem dX6_copy_73 : decode cX6_copy 73 = .ok (.ifCond .eq 19, 3) := by decide +kernel
theorem dX6_copy_76 : decode cX6_copy 76 = .ok (.aload_n 0, 1) := by decide +kernel
theorem dX6_copy_77 : decode cX6_copy 77 = .ok (.getfield 11, 3) := by decide +kernel
theorem dX6_copy_80 : decode cX6_copy 80 = .ok (.iload_n 3, 1) := by decide +kernel
theorem dX6_copy_81 : decode cX6_copy 81 = .ok (.aaload, 1) := by decide +kernel
theorem dX6_copy_82 : decode cX6_copy 82 = .ok (.iload 4, 2) := by decide +kernel
theorem dX6_copy_84 : decode cX6_copy 84 = .ok (.iload 5, 2) := by decide +kernel
theorem dX6_copy_86 : decode cX6_copy 86 = .ok (.invokevirtual 97, 3) := by decide +kernel
theorem dX6_copy_89 : decode cX6_copy 89 = .ok (.ifCond .ne 9, 3) := by decide +kernel
theorem dX6_copy_92 : decode cX6_copy 92 = .ok (.aload_n 0, 1) := by decide +kernel
theorem dX6_copy_93 : decode cX6_copy 93 = .ok (.iconst 2, 1) := by decide +kernel
theorem dX6_copy_94 : decode cX6_copy 94 = .ok (.invokevirtual 68, 3) := by decide +kernel
theorem dX6_copy_97 : decode cX6_copy 97 = .ok (.ireturn, 1) := by decide +kernel
theorem dX6_copy_98 : decode cX6_copy 98 = .ok (.aload_n 0, 1) := by decide +kernel
theorem dX6_copy_99 : decode cX6_copy 99 = .ok (.getfield 11, 3) := by decide +kernel
theorem dX6_copy_102 : decode cX6_copy 102 = .ok (.iload_n 3, 1) := by decide +kernel
theorem dX6_copy_103 : decode cX6_copy 103 = .ok (.aaload, 1) := by decide +kernel
theorem dX6_copy_104 : decode cX6_copy 104 = .ok (.aload_n 0, 1) := by decide +kernel
theorem dX6_copy_105 : decode cX6_copy 105 = .ok (.getfield 11, 3) := by decide +kernel
theorem dX6_copy_108 : decode cX6_copy 108 = .ok (.iload_n 1, 1) := by decide +kernel
theorem dX6_copy_109 : decode cX6_copy 109 = .ok (.aaload, 1) := by decide +kernel
theorem dX6_copy_110 : decode cX6_copy 110 = .ok (.iload_n 2, 1) := by decide +kernel
theorem dX6_copy_111 : decode cX6_copy 111 = .ok (.iload 4, 2) := by decide +kernel
theorem dX6_copy_113 : decode cX6_copy 113 = .ok (.iload 5, 2) := by decide +kernel
theorem dX6_copy_115 : decode cX6_copy 115 = .ok (.invokevirtual 100, 3) := by decide +kernel
theorem dX6_copy_118 : decode cX6_copy 118 = .ok (.iconst 1, 1) := by decide +kernel
theorem dX6_copy_119 : decode cX6_copy 119 = .ok (.ireturn, 1) := by decide +kernel
theorem dX6_mean_0 : decode cX6_mean 0 = .ok (.iload_n 1, 1) := by decide +kernel
theorem dX6_mean_1 : decode cX6_mean 1 = .ok (.bipush 6, 2) := by decide +kernel
theorem dX6_mean_3 : decode cX6_mean 3 = .ok (.invokestatic 64, 3) := by decide +kernel
theorem dX6_mean_6 : decode cX6_mean 6 = .ok (.ifCond .ne 5, 3) := by decide +kernel
theorem dX6_mean_9 : decode cX6_mean 9 = .ok (.iconst (-1), 1) := by decide +kernel
theorem dX6_mean_10 : decode cX6_mean 10 = .ok (.ireturn, 1) := by decide +kernel
theorem dX6_mean_11 : decode cX6_mean 11 = .ok (.aload_n 0, 1) := by decide +kernel
theorem dX6_mean_12 : decode cX6_mean 12 = .ok (.getfield 11, 3) := by decide +kernel
theorem dX6_mean_15 : decode cX6_mean 15 = .ok (.iload_n 1, 1) := by decide +kernel
theorem dX6_mean_16 : decode cX6_mean 16 = .ok (.aaload, 1) := by decide +kernel
theorem dX6_mean_17 : decode cX6_mean 17 = .ok (.invokevirtual 104, 3) := by decide +kernel
theorem dX6_mean_20 : decode cX6_mean 20 = .ok (.istore_n 2, 1) := by decide +kernel
theorem dX6_mean_21 : decode cX6_mean 21 = .ok (.iload_n 2, 1) := by decide +kernel
theorem dX6_mean_22 : decode cX6_mean 22 = .ok (.ifCond .ge 9, 3) := by decide +kernel
theorem dX6_mean_25 : decode cX6_mean 25 = .ok (.aload_n 0, 1) := by decide +kernel
theorem dX6_mean_26 : decode cX6_mean 26 = .ok (.iconst 1, 1) := by decide +kernel
theorem dX6_mean_27 : decode cX6_mean 27 = .ok (.invokevirtual 68, 3) := by decide +kernel
theorem dX6_mean_30 : decode cX6_mean 30 = .ok (.ireturn, 1) := by decide +kernel
theorem dX6_mean_31 : decode cX6_mean 31 = .ok (.iload_n 2, 1) := by decide +kernel
theorem dX6_mean_32 : decode cX6_mean 32 = .ok (.ifCond .ne 9, 3) := by decide +kernel
theorem dX6_mean_35 : decode cX6_mean 35 = .ok (.aload_n 0, 1) := by decide +kernel
theorem dX6_mean_36 : decode cX6_mean 36 = .ok (.iconst 4, 1) := by decide +kernel
theorem dX6_mean_37 : decode cX6_mean 37 = .ok (.invokevirtual 68, 3) := by decide +kernel
theorem dX6_mean_40 : decode cX6_mean 40 = .ok (.ireturn, 1) := by decide +kernel
theorem dX6_mean_41 : decode cX6_mean 41 = .ok (.aload_n 0, 1) := by decide +kernel
theorem dX6_mean_42 : decode cX6_mean 42 = .ok (.aload_n 0, 1) := by decide +kernel
theorem dX6_mean_43 : decode cX6_mean 43 = .ok (.getfield 11, 3) := by decide +kernel
theorem dX6_mean_46 : decode cX6_mean 46 = .ok (.iload_n 1, 1) := by decide +kernel
theorem dX6_mean_47 : decode cX6_mean 47 = .ok (.aaload, 1) := by decide +kernel
theorem dX6_mean_48 : decode cX6_mean 48 = .ok (.invokevirtual 108, 3) := by decide +kernel
theorem dX6_mean_51 : decode cX6_mean 51 = .ok (.iload_n 2, 1) := by decide +kernel
theorem dX6_mean_52 : decode cX6_mean 52 = .ok (.i2l, 1) := by decide +kernel
theorem dX6_mean_53 : decode cX6_mean 53 = .ok (.ldiv, 1) := by decide +kernel
theorem dX6_mean_54 : decode cX6_mean 54 = .ok (.l2i, 1) := by decide +kernel
theorem dX6_mean_55 : decode cX6_mean 55 = .ok (.invokevirtual 84, 3) := by decide +kernel
theorem dX6_mean_58 : decode cX6_mean 58 = .ok (.ireturn, 1) := by decide +kernel
theorem dX6_text_0 : decode cX6_text 0 = .ok (.iload_n 1, 1) := by decide +kernel
theorem dX6_text_1 : decode cX6_text 1 = .ok (.iconst 4, 1) := by decide +kernel
theorem dX6_text_2 : decode cX6_text 2 = .ok (.invokestatic 64, 3) := by decide +kernel
theorem dX6_text_5 : decode cX6_text 5 = .ok (.ifCond .eq 9, 3) := by decide +kernel
theorem dX6_text_8 : decode cX6_text 8 = .ok (.iload_n 2, 1) := by decide +kernel
theorem dX6_text_9 : decode cX6_text 9 = .ok (.bipush 80, 2) := by decide +kernel
theorem dX6_text_11 : decode cX6_text 11 = .ok (.if_icmp .le 5, 3) := by decide +kernel
theorem dX6_text_14 : decode cX6_text 14 = .ok (.iconst (-1), 1) := by decide +kernel
theorem dX6_text_15 : decode cX6_text 15 = .ok (.ireturn, 1) := by decide +kernel
theorem dX6_text_16 : decode cX6_text 16 = .ok (.iload_n 2, 1) := by decide +kernel
theorem dX6_text_17 : decode cX6_text 17 = .ok (.ifCond .ge 9, 3) := by decide +kernel
theorem dX6_text_20 : decode cX6_text 20 = .ok (.aload_n 0, 1) := by decide +kernel
theorem dX6_text_21 : decode cX6_text 21 = .ok (.iconst 5, 1) := by decide +kernel
theorem dX6_text_22 : decode cX6_text 22 = .ok (.invokevirtual 68, 3) := by decide +kernel
theorem dX6_text_25 : decode cX6_text 25 = .ok (.ireturn, 1) := by decide +kernel
theorem dX6_text_26 : decode cX6_text 26 = .ok (.aload_n 0, 1) := by decide +kernel
theorem dX6_text_27 : decode cX6_text 27 = .ok (.getfield 15, 3) := by decide +kernel
theorem dX6_text_30 : decode cX6_text 30 = .ok (.iload_n 1, 1) := by decide +kernel
theorem dX6_text_31 : decode cX6_text 31 = .ok (.aaload, 1) := by decide +kernel
theorem dX6_text_32 : decode cX6_text 32 = .ok (.iload_n 2, 1) := by decide +kernel
theorem dX6_text_33 : decode cX6_text 33 = .ok (.bipush 32, 2) := by decide +kernel
theorem dX6_text_35 : decode cX6_text 35 = .ok (.invokevirtual 72, 3) := by decide +kernel
theorem dX6_text_38 : decode cX6_text 38 = .ok (.iload_n 2, 1) := by decide +kernel
theorem dX6_text_39 : decode cX6_text 39 = .ok (.ireturn, 1) := by decide +kernel
theorem dX6_put_0 : decode cX6_put 0 = .ok (.iload_n 1, 1) := by decide +kernel
theorem dX6_put_1 : decode cX6_put 1 = .ok (.iconst 4, 1) := by decide +kernel
theorem dX6_put_2 : decode cX6_put 2 = .ok (.invokestatic 64, 3) := by decide +kernel
theorem dX6_put_5 : decode cX6_put 5 = .ok (.ifCond .ne 5, 3) := by decide +kernel
theorem dX6_put_8 : decode cX6_put 8 = .ok (.iconst (-1), 1) := by decide +kernel
theorem dX6_put_9 : decode cX6_put 9 = .ok (.ireturn, 1) := by decide +kernel
theorem dX6_put_10 : decode cX6_put 10 = .ok (.aload_n 0, 1) := by decide +kernel
theorem dX6_put_11 : decode cX6_put 11 = .ok (.aload_n 0, 1) := by decide +kernel
theorem dX6_put_12 : decode cX6_put 12 = .ok (.getfield 15, 3) := by decide +kernel
theorem dX6_put_15 : decode cX6_put 15 = .ok (.iload_n 1, 1) := by decide +kernel
theorem dX6_put_16 : decode cX6_put 16 = .ok (.aaload, 1) := by decide +kernel
theorem dX6_put_17 : decode cX6_put 17 = .ok (.iload_n 2, 1) := by decide +kernel
theorem dX6_put_18 : decode cX6_put 18 = .ok (.invokevirtual 76, 3) := by decide +kernel
theorem dX6_put_21 : decode cX6_put 21 = .ok (.istore 4, 2) := by decide +kernel
theorem dX6_put_23 : decode cX6_put 23 = .ok (.iload 4, 2) := by decide +kernel
theorem dX6_put_25 : decode cX6_put 25 = .ok (.ifCond .eq 10, 3) := by decide +kernel
theorem dX6_put_28 : decode cX6_put 28 = .ok (.aload_n 0, 1) := by decide +kernel
theorem dX6_put_29 : decode cX6_put 29 = .ok (.iload 4, 2) := by decide +kernel
theorem dX6_put_31 : decode cX6_put 31 = .ok (.invokevirtual 68, 3) := by decide +kernel
theorem dX6_put_34 : decode cX6_put 34 = .ok (.ireturn, 1) := by decide +kernel
theorem dX6_put_35 : decode cX6_put 35 = .ok (.sipush 1000, 3) := by decide +kernel
theorem dX6_put_38 : decode cX6_put 38 = .ok (.aload_n 0, 1) := by decide +kernel
theorem dX6_put_39 : decode cX6_put 39 = .ok (.getfield 15, 3) := by decide +kernel
theorem dX6_put_42 : decode cX6_put 42 = .ok (.iload_n 1, 1) := by decide +kernel
theorem dX6_put_43 : decode cX6_put 43 = .ok (.aaload, 1) := by decide +kernel
theorem dX6_put_44 : decode cX6_put 44 = .ok (.iload_n 2, 1) := by decide +kernel
theorem dX6_put_45 : decode cX6_put 45 = .ok (.iload_n 3, 1) := by decide +kernel
theorem dX6_put_46 : decode cX6_put 46 = .ok (.i2b, 1) := by decide +kernel
theorem dX6_put_47 : decode cX6_put 47 = .ok (.invokevirtual 80, 3) := by decide +kernel
theorem dX6_put_50 : decode cX6_put 50 = .ok (.iadd, 1) := by decide +kernel
theorem dX6_put_51 : decode cX6_put 51 = .ok (.ireturn, 1) := by decide +kernel
theorem dX6_fault_0 : decode cX6_fault 0 = .ok (.iload_n 1, 1) := by decide +kernel
theorem dX6_fault_1 : decode cX6_fault 1 = .ok (.iconst 4, 1) := by decide +kernel
theorem dX6_fault_2 : decode cX6_fault 2 = .ok (.invokestatic 64, 3) := by decide +kernel
theorem dX6_fault_5 : decode cX6_fault 5 = .ok (.ifCond .ne 5, 3) := by decide +kernel
theorem dX6_fault_8 : decode cX6_fault 8 = .ok (.iconst (-1), 1) := by decide +kernel
theorem dX6_fault_9 : decode cX6_fault 9 = .ok (.ireturn, 1) := by decide +kernel
theorem dX6_fault_10 : decode cX6_fault 10 = .ok (.aload_n 0, 1) := by decide +kernel
theorem dX6_fault_11 : decode cX6_fault 11 = .ok (.getfield 15, 3) := by decide +kernel
theorem dX6_fault_14 : decode cX6_fault 14 = .ok (.iload_n 1, 1) := by decide +kernel
theorem dX6_fault_15 : decode cX6_fault 15 = .ok (.aaload, 1) := by decide +kernel
theorem dX6_fault_16 : decode cX6_fault 16 = .ok (.invokevirtual 90, 3) := by decide +kernel
theorem dX6_fault_19 : decode cX6_fault 19 = .ok (.ifCond .ne 9, 3) := by decide +kernel
theorem dX6_fault_22 : decode cX6_fault 22 = .ok (.aload_n 0, 1) := by decide +kernel
theorem dX6_fault_23 : decode cX6_fault 23 = .ok (.iconst 1, 1) := by decide +kernel
theorem dX6_fault_24 : decode cX6_fault 24 = .ok (.invokevirtual 68, 3) := by decide +kernel
theorem dX6_fault_27 : decode cX6_fault 27 = .ok (.ireturn, 1) := by decide +kernel
theorem dX6_fault_28 : decode cX6_fault 28 = .ok (.aload_n 0, 1) := by decide +kernel
theorem dX6_fault_29 : decode cX6_fault 29 = .ok (.getfield 39, 3) := by decide +kernel
theorem dX6_fault_32 : decode cX6_fault 32 = .ok (.aload_n 0, 1) := by decide +kernel
theorem dX6_fault_33 : decode cX6_fault 33 = .ok (.getfield 15, 3) := by decide +kernel
theorem dX6_fault_36 : decode cX6_fault 36 = .ok (.iload_n 1, 1) := by decide +kernel
theorem dX6_fault_37 : decode cX6_fault 37 = .ok (.aaload, 1) := by decide +kernel
theorem dX6_fault_38 : decode cX6_fault 38 = .ok (.invokevirtual 112, 3) := by decide +kernel
theorem dX6_fault_41 : decode cX6_fault 41 = .ok (.ireturn, 1) := by decide +kernel
theorem dX6_market_0 : decode cX6_market 0 = .ok (.iload_n 1, 1) := by decide +kernel
theorem dX6_market_1 : decode cX6_market 1 = .ok (.iconst 4, 1) := by decide +kernel
theorem dX6_market_2 : decode cX6_market 2 = .ok (.invokestatic 64, 3) := by decide +kernel
theorem dX6_market_5 : decode cX6_market 5 = .ok (.ifCond .ne 5, 3) := by decide +kernel
theorem dX6_market_8 : decode cX6_market 8 = .ok (.iconst (-1), 1) := by decide +kernel
theorem dX6_market_9 : decode cX6_market 9 = .ok (.ireturn, 1) := by decide +kernel
theorem dX6_market_10 : decode cX6_market 10 = .ok (.aload_n 0, 1) := by decide +kernel
theorem dX6_market_11 : decode cX6_market 11 = .ok (.getfield 15, 3) := by decide +kernel
theorem dX6_market_14 : decode cX6_market 14 = .ok (.iload_n 1, 1) := by decide +kernel
theorem dX6_market_15 : decode cX6_market 15 = .ok (.aaload, 1) := by decide +kernel
theorem dX6_market_16 : decode cX6_market 16 = .ok (.invokevirtual 90, 3) := by decide +kernel
theorem dX6_market_19 : decode cX6_market 19 = .ok (.ifCond .ne 9, 3) := by decide +kernel
theorem dX6_market_22 : decode cX6_market 22 = .ok (.aload_n 0, 1) := by decide +kernel
theorem dX6_market_23 : decode cX6_market 23 = .ok (.iconst 1, 1) := by decide +kernel
theorem dX6_market_24 : decode cX6_market 24 = .ok (.invokevirtual 68, 3) := by decide +kernel
theorem dX6_market_27 : decode cX6_market 27 = .ok (.ireturn, 1) := by decide +kernel
theorem dX6_market_28 : decode cX6_market 28 = .ok (.aload_n 0, 1) := by decide +kernel
theorem dX6_market_29 : decode cX6_market 29 = .ok (.getfield 39, 3) := by decide +kernel
theorem dX6_market_32 : decode cX6_market 32 = .ok (.aload_n 0, 1) := by decide +kernel
theorem dX6_market_33 : decode cX6_market 33 = .ok (.getfield 15, 3) := by decide +kernel
theorem dX6_market_36 : decode cX6_market 36 = .ok (.iload_n 1, 1) := by decide +kernel
theorem dX6_market_37 : decode cX6_market 37 = .ok (.aaload, 1) := by decide +kernel
theorem dX6_market_38 : decode cX6_market 38 = .ok (.invokevirtual 112, 3) := by decide +kernel
theorem dX6_market_41 : decode cX6_market 41 = .ok (.bipush (-9), 2) := by decide +kernel
theorem dX6_market_43 : decode cX6_market 43 = .ok (.if_icmp .eq 6, 3) := by decide +kernel
theorem dX6_market_46 : decode cX6_market 46 = .ok (.bipush (-4), 2) := by decide +kernel
theorem dX6_market_48 : decode cX6_market 48 = .ok (.ireturn, 1) := by decide +kernel
theorem dX6_market_49 : decode cX6_market 49 = .ok (.aload_n 0, 1) := by decide +kernel
theorem dX6_market_50 : decode cX6_market 50 = .ok (.getfield 21, 3) := by decide +kernel
theorem dX6_market_53 : decode cX6_market 53 = .ok (.aload_n 0, 1) := by decide +kernel
theorem dX6_market_54 : decode cX6_market 54 = .ok (.getfield 39, 3) := by decide +kernel
theorem dX6_market_57 : decode cX6_market 57 = .ok (.getfield 116, 3) := by decide +kernel
theorem dX6_market_60 : decode cX6_market 60 = .ok (.invokevirtual 119, 3) := by decide +kernel
theorem dX6_market_63 : decode cX6_market 63 = .ok (.aload_n 0, 1) := by decide +kernel
theorem dX6_market_64 : decode cX6_market 64 = .ok (.getfield 21, 3) := by decide +kernel
theorem dX6_market_67 : decode cX6_market 67 = .ok (.invokevirtual 123, 3) := by decide +kernel
theorem dX6_market_70 : decode cX6_market 70 = .ok (.aload_n 0, 1) := by decide +kernel
theorem dX6_market_71 : decode cX6_market 71 = .ok (.getfield 32, 3) := by decide +kernel
theorem dX6_market_74 : decode cX6_market 74 = .ok (.aload_n 0, 1) := by decide +kernel
theorem dX6_market_75 : decode cX6_market 75 = .ok (.getfield 21, 3) := by decide +kernel
theorem dX6_market_78 : decode cX6_market 78 = .ok (.getfield 126, 3) := by decide +kernel
theorem dX6_market_81 : decode cX6_market 81 = .ok (.invokevirtual 130, 3) := by decide +kernel
theorem dX6_market_84 : decode cX6_market 84 = .ok (.iconst 0, 1) := by decide +kernel
theorem dX6_market_85 : decode cX6_market 85 = .ok (.istore_n 2, 1) := by decide +kernel
theorem dX6_market_86 : decode cX6_market 86 = .ok (.iload_n 2, 1) := by decide +kernel
theorem dX6_market_87 : decode cX6_market 87 = .ok (.iconst 3, 1) := by decide +kernel
theorem dX6_market_88 : decode cX6_market 88 = .ok (.if_icmp .ge 18, 3) := by decide +kernel
theorem dX6_market_91 : decode cX6_market 91 = .ok (.aload_n 0, 1) := by decide +kernel
theorem dX6_market_92 : decode cX6_market 92 = .ok (.getfield 25, 3) := by decide +kernel
theorem dX6_market_95 : decode cX6_market 95 = .ok (.iload_n 2, 1) := by decide +kernel
theorem dX6_market_96 : decode cX6_market 96 = .ok (.aaload, 1) := by decide +kernel
theorem dX6_market_97 : decode cX6_market 97 = .ok (.invokevirtual 133, 3) := by decide +kernel
theorem dX6_market_100 : decode cX6_market 100 = .ok (.iinc 2 1, 3) := by decide +kernel
theorem dX6_market_103 : decode cX6_market 103 = .ok (.goto (-17), 3) := by decide +kernel
theorem dX6_market_106 : decode cX6_market 106 = .ok (.aload_n 0, 1) := by decide +kernel
theorem dX6_market_107 : decode cX6_market 107 = .ok (.getfield 21, 3) := by decide +kernel
theorem dX6_market_110 : decode cX6_market 110 = .ok (.getfield 136, 3) := by decide +kernel
theorem dX6_market_113 : decode cX6_market 113 = .ok (.ireturn, 1) := by decide +kernel
theorem dX6_buyer_0 : decode cX6_buyer 0 = .ok (.aload_n 0, 1) := by decide +kernel
theorem dX6_buyer_1 : decode cX6_buyer 1 = .ok (.iload_n 1, 1) := by decide +kernel
theorem dX6_buyer_2 : decode cX6_buyer 2 = .ok (.invokevirtual 139, 3) := by decide +kernel
theorem dX6_buyer_5 : decode cX6_buyer 5 = .ok (.ifCond .eq 11, 3) := by decide +kernel
theorem dX6_buyer_8 : decode cX6_buyer 8 = .ok (.iload_n 2, 1) := by decide +kernel
theorem dX6_buyer_9 : decode cX6_buyer 9 = .ok (.iconst 4, 1) := by decide +kernel
theorem dX6_buyer_10 : decode cX6_buyer 10 = .ok (.invokestatic 64, 3) := by decide +kernel
theorem dX6_buyer_13 : decode cX6_buyer 13 = .ok (.ifCond .ne 5, 3) := by decide +kernel
theorem dX6_buyer_16 : decode cX6_buyer 16 = .ok (.iconst (-1), 1) := by decide +kernel
theorem dX6_buyer_17 : decode cX6_buyer 17 = .ok (.ireturn, 1) := by decide +kernel
theorem dX6_buyer_18 : decode cX6_buyer 18 = .ok (.aload_n 0, 1) := by decide +kernel
theorem dX6_buyer_19 : decode cX6_buyer 19 = .ok (.aload_n 0, 1) := by decide +kernel
theorem dX6_buyer_20 : decode cX6_buyer 20 = .ok (.getfield 21, 3) := by decide +kernel
theorem dX6_buyer_23 : decode cX6_buyer 23 = .ok (.iload_n 1, 1) := by decide +kernel
theorem dX6_buyer_24 : decode cX6_buyer 24 = .ok (.iload_n 2, 1) := by decide +kernel
theorem dX6_buyer_25 : decode cX6_buyer 25 = .ok (.invokevirtual 143, 3) := by decide +kernel
theorem dX6_buyer_28 : decode cX6_buyer 28 = .ok (.invokevirtual 84, 3) := by decide +kernel
theorem dX6_buyer_31 : decode cX6_buyer 31 = .ok (.ireturn, 1) := by decide +kernel
theorem dX6_stall_0 : decode cX6_stall 0 = .ok (.aload_n 0, 1) := by decide +kernel
theorem dX6_stall_1 : decode cX6_stall 1 = .ok (.iload_n 1, 1) := by decide +kernel
theorem dX6_stall_2 : decode cX6_stall 2 = .ok (.invokevirtual 146, 3) := by decide +kernel
theorem dX6_stall_5 : decode cX6_stall 5 = .ok (.ifCond .eq 11, 3) := by decide +kernel
theorem dX6_stall_8 : decode cX6_stall 8 = .ok (.iload_n 2, 1) := by decide +kernel
theorem dX6_stall_9 : decode cX6_stall 9 = .ok (.iconst 4, 1) := by decide +kernel
theorem dX6_stall_10 : decode cX6_stall 10 = .ok (.invokestatic 64, 3) := by decide +kernel
theorem dX6_stall_13 : decode cX6_stall 13 = .ok (.ifCond .ne 5, 3) := by decide +kernel
theorem dX6_stall_16 : decode cX6_stall 16 = .ok (.iconst (-1), 1) := by decide +kernel
theorem dX6_stall_17 : decode cX6_stall 17 = .ok (.ireturn, 1) := by decide +kernel
theorem dX6_stall_18 : decode cX6_stall 18 = .ok (.aload_n 0, 1) := by decide +kernel
theorem dX6_stall_19 : decode cX6_stall 19 = .ok (.aload_n 0, 1) := by decide +kernel
theorem dX6_stall_20 : decode cX6_stall 20 = .ok (.getfield 21, 3) := by decide +kernel
theorem dX6_stall_23 : decode cX6_stall 23 = .ok (.iload_n 1, 1) := by decide +kernel
theorem dX6_stall_24 : decode cX6_stall 24 = .ok (.iload_n 2, 1) := by decide +kernel
theorem dX6_stall_25 : decode cX6_stall 25 = .ok (.invokevirtual 149, 3) := by decide +kernel
theorem dX6_stall_28 : decode cX6_stall 28 = .ok (.invokevirtual 84, 3) := by decide +kernel
theorem dX6_stall_31 : decode cX6_stall 31 = .ok (.ireturn, 1) := by decide +kernel
theorem dX6_mark_0 : decode cX6_mark 0 = .ok (.aload_n 0, 1) := by decide +kernel
theorem dX6_mark_1 : decode cX6_mark 1 = .ok (.iload_n 1, 1) := by decide +kernel
theorem dX6_mark_2 : decode cX6_mark 2 = .ok (.invokevirtual 139, 3) := by decide +kernel
theorem dX6_mark_5 : decode cX6_mark 5 = .ok (.ifCond .eq 13, 3) := by decide +kernel
theorem dX6_mark_8 : decode cX6_mark 8 = .ok (.iload_n 2, 1) := by decide +kernel
theorem dX6_mark_9 : decode cX6_mark 9 = .ok (.iconst 1, 1) := by decide +kernel
theorem dX6_mark_10 : decode cX6_mark 10 = .ok (.if_icmp .lt 8, 3) := by decide +kernel
theorem dX6_mark_13 : decode cX6_mark 13 = .ok (.iload_n 2, 1) := by decide +kernel
theorem dX6_mark_14 : decode cX6_mark 14 = .ok (.iconst 5, 1) := by decide +kernel
theorem dX6_mark_15 : decode cX6_mark 15 = .ok (.if_icmp .le 5, 3) := by decide +kernel
theorem dX6_mark_18 : decode cX6_mark 18 = .ok (.iconst (-1), 1) := by decide +kernel
theorem dX6_mark_19 : decode cX6_mark 19 = .ok (.ireturn, 1) := by decide +kernel
theorem dX6_mark_20 : decode cX6_mark 20 = .ok (.aload_n 0, 1) := by decide +kernel
theorem dX6_mark_21 : decode cX6_mark 21 = .ok (.getfield 21, 3) := by decide +kernel
theorem dX6_mark_24 : decode cX6_mark 24 = .ok (.iload_n 1, 1) := by decide +kernel
theorem dX6_mark_25 : decode cX6_mark 25 = .ok (.iload_n 2, 1) := by decide +kernel
theorem dX6_mark_26 : decode cX6_mark 26 = .ok (.invokevirtual 152, 3) := by decide +kernel
theorem dX6_mark_29 : decode cX6_mark 29 = .ok (.ifCond .ne 9, 3) := by decide +kernel
theorem dX6_mark_32 : decode cX6_mark 32 = .ok (.aload_n 0, 1) := by decide +kernel
theorem dX6_mark_33 : decode cX6_mark 33 = .ok (.iconst 3, 1) := by decide +kernel
theorem dX6_mark_34 : decode cX6_mark 34 = .ok (.invokevirtual 68, 3) := by decide +kernel
theorem dX6_mark_37 : decode cX6_mark 37 = .ok (.ireturn, 1) := by decide +kernel
theorem dX6_mark_38 : decode cX6_mark 38 = .ok (.iload_n 2, 1) := by decide +kernel
theorem dX6_mark_39 : decode cX6_mark 39 = .ok (.tableswitch 75 1 4 #[29, 38, 47, 66], 29) := by decide +kernel
theorem dX6_mark_68 : decode cX6_mark 68 = .ok (.aload_n 0, 1) := by decide +kernel
theorem dX6_mark_69 : decode cX6_mark 69 = .ok (.getfield 21, 3) := by decide +kernel
theorem dX6_mark_72 : decode cX6_mark 72 = .ok (.iload_n 1, 1) := by decide +kernel
theorem dX6_mark_73 : decode cX6_mark 73 = .ok (.invokevirtual 155, 3) := by decide +kernel
theorem dX6_mark_76 : decode cX6_mark 76 = .ok (.ireturn, 1) := by decide +kernel
theorem dX6_mark_77 : decode cX6_mark 77 = .ok (.aload_n 0, 1) := by decide +kernel
theorem dX6_mark_78 : decode cX6_mark 78 = .ok (.getfield 21, 3) := by decide +kernel
theorem dX6_mark_81 : decode cX6_mark 81 = .ok (.iload_n 1, 1) := by decide +kernel
theorem dX6_mark_82 : decode cX6_mark 82 = .ok (.invokevirtual 158, 3) := by decide +kernel
theorem dX6_mark_85 : decode cX6_mark 85 = .ok (.ireturn, 1) := by decide +kernel
theorem dX6_mark_86 : decode cX6_mark 86 = .ok (.aload_n 0, 1) := by decide +kernel
theorem dX6_mark_87 : decode cX6_mark 87 = .ok (.getfield 21, 3) := by decide +kernel
theorem dX6_mark_90 : decode cX6_mark 90 = .ok (.aload_n 0, 1) := by decide +kernel
theorem dX6_mark_91 : decode cX6_mark 91 = .ok (.getfield 21, 3) := by decide +kernel
theorem dX6_mark_94 : decode cX6_mark 94 = .ok (.getfield 161, 3) := by decide +kernel
theorem dX6_mark_97 : decode cX6_mark 97 = .ok (.iload_n 1, 1) := by decide +kernel
theorem dX6_mark_98 : decode cX6_mark 98 = .ok (.iaload, 1) := by decide +kernel
theorem dX6_mark_99 : decode cX6_mark 99 = .ok (.bipush 8, 2) := by decide +kernel
theorem dX6_mark_101 : decode cX6_mark 101 = .ok (.invokevirtual 164, 3) := by decide +kernel
theorem dX6_mark_104 : decode cX6_mark 104 = .ok (.ireturn, 1) := by decide +kernel
theorem dX6_mark_105 : decode cX6_mark 105 = .ok (.aload_n 0, 1) := by decide +kernel
theorem dX6_mark_106 : decode cX6_mark 106 = .ok (.getfield 21, 3) := by decide +kernel
theorem dX6_mark_109 : decode cX6_mark 109 = .ok (.iload_n 1, 1) := by decide +kernel
theorem dX6_mark_110 : decode cX6_mark 110 = .ok (.invokevirtual 167, 3) := by decide +kernel
theorem dX6_mark_113 : decode cX6_mark 113 = .ok (.ireturn, 1) := by decide +kernel
theorem dX6_mark_114 : decode cX6_mark 114 = .ok (.aload_n 0, 1) := by decide +kernel
theorem dX6_mark_115 : decode cX6_mark 115 = .ok (.getfield 21, 3) := by decide +kernel
theorem dX6_mark_118 : decode cX6_mark 118 = .ok (.aload_n 0, 1) := by decide +kernel
theorem dX6_mark_119 : decode cX6_mark 119 = .ok (.getfield 21, 3) := by decide +kernel
theorem dX6_mark_122 : decode cX6_mark 122 = .ok (.getfield 161, 3) := by decide +kernel
theorem dX6_mark_125 : decode cX6_mark 125 = .ok (.iload_n 1, 1) := by decide +kernel
theorem dX6_mark_126 : decode cX6_mark 126 = .ok (.iaload, 1) := by decide +kernel
theorem dX6_mark_127 : decode cX6_mark 127 = .ok (.iconst 1, 1) := by decide +kernel
theorem dX6_mark_128 : decode cX6_mark 128 = .ok (.aload_n 0, 1) := by decide +kernel
theorem dX6_mark_129 : decode cX6_mark 129 = .ok (.getfield 21, 3) := by decide +kernel
theorem dX6_mark_132 : decode cX6_mark 132 = .ok (.getfield 170, 3) := by decide +kernel
theorem dX6_mark_135 : decode cX6_mark 135 = .ok (.iload_n 1, 1) := by decide +kernel
theorem dX6_mark_136 : decode cX6_mark 136 = .ok (.iaload, 1) := by decide +kernel
theorem dX6_mark_137 : decode cX6_mark 137 = .ok (.ishl, 1) := by decide +kernel
theorem dX6_mark_138 : decode cX6_mark 138 = .ok (.invokevirtual 164, 3) := by decide +kernel
theorem dX6_mark_141 : decode cX6_mark 141 = .ok (.ireturn, 1) := by decide +kernel
theorem dX6_want_0 : decode cX6_want 0 = .ok (.aload_n 0, 1) := by decide +kernel
theorem dX6_want_1 : decode cX6_want 1 = .ok (.iload_n 1, 1) := by decide +kernel
theorem dX6_want_2 : decode cX6_want 2 = .ok (.invokevirtual 139, 3) := by decide +kernel
theorem dX6_want_5 : decode cX6_want 5 = .ok (.ifCond .eq 11, 3) := by decide +kernel
theorem dX6_want_8 : decode cX6_want 8 = .ok (.iload_n 2, 1) := by decide +kernel
theorem dX6_want_9 : decode cX6_want 9 = .ok (.iconst 5, 1) := by decide +kernel
theorem dX6_want_10 : decode cX6_want 10 = .ok (.invokestatic 64, 3) := by decide +kernel
theorem dX6_want_13 : decode cX6_want 13 = .ok (.ifCond .ne 5, 3) := by decide +kernel
theorem dX6_want_16 : decode cX6_want 16 = .ok (.iconst (-1), 1) := by decide +kernel
theorem dX6_want_17 : decode cX6_want 17 = .ok (.ireturn, 1) := by decide +kernel
theorem dX6_want_18 : decode cX6_want 18 = .ok (.aload_n 0, 1) := by decide +kernel
theorem dX6_want_19 : decode cX6_want 19 = .ok (.getfield 21, 3) := by decide +kernel
theorem dX6_want_22 : decode cX6_want 22 = .ok (.getfield 170, 3) := by decide +kernel
theorem dX6_want_25 : decode cX6_want 25 = .ok (.iload_n 1, 1) := by decide +kernel
theorem dX6_want_26 : decode cX6_want 26 = .ok (.iaload, 1) := by decide +kernel
theorem dX6_want_27 : decode cX6_want 27 = .ok (.istore_n 3, 1) := by decide +kernel
theorem dX6_want_28 : decode cX6_want 28 = .ok (.aload_n 0, 1) := by decide +kernel
theorem dX6_want_29 : decode cX6_want 29 = .ok (.getfield 21, 3) := by decide +kernel
theorem dX6_want_32 : decode cX6_want 32 = .ok (.getfield 170, 3) := by decide +kernel
theorem dX6_want_35 : decode cX6_want 35 = .ok (.iload_n 1, 1) := by decide +kernel
theorem dX6_want_36 : decode cX6_want 36 = .ok (.iload_n 2, 1) := by decide +kernel
theorem dX6_want_37 : decode cX6_want 37 = .ok (.iastore, 1) := by decide +kernel
theorem dX6_want_38 : decode cX6_want 38 = .ok (.iload_n 3, 1) := by decide +kernel
theorem dX6_want_39 : decode cX6_want 39 = .ok (.ireturn, 1) := by decide +kernel
theorem dX6_price_0 : decode cX6_price 0 = .ok (.aload_n 0, 1) := by decide +kernel
theorem dX6_price_1 : decode cX6_price 1 = .ok (.iload_n 1, 1) := by decide +kernel
theorem dX6_price_2 : decode cX6_price 2 = .ok (.invokevirtual 146, 3) := by decide +kernel
theorem dX6_price_5 : decode cX6_price 5 = .ok (.ifCond .eq 13, 3) := by decide +kernel
theorem dX6_price_8 : decode cX6_price 8 = .ok (.iload_n 2, 1) := by decide +kernel
theorem dX6_price_9 : decode cX6_price 9 = .ok (.ifCond .lt 9, 3) := by decide +kernel
theorem dX6_price_12 : decode cX6_price 12 = .ok (.iload_n 2, 1) := by decide +kernel
theorem dX6_price_13 : decode cX6_price 13 = .ok (.bipush 99, 2) := by decide +kernel
theorem dX6_price_15 : decode cX6_price 15 = .ok (.if_icmp .le 5, 3) := by decide +kernel
theorem dX6_price_18 : decode cX6_price 18 = .ok (.iconst (-1), 1) := by decide +kernel
theorem dX6_price_19 : decode cX6_price 19 = .ok (.ireturn, 1) := by decide +kernel
theorem dX6_price_20 : decode cX6_price 20 = .ok (.aload_n 0, 1) := by decide +kernel
theorem dX6_price_21 : decode cX6_price 21 = .ok (.getfield 21, 3) := by decide +kernel
theorem dX6_price_24 : decode cX6_price 24 = .ok (.getfield 173, 3) := by decide +kernel
theorem dX6_price_27 : decode cX6_price 27 = .ok (.iload_n 1, 1) := by decide +kernel
theorem dX6_price_28 : decode cX6_price 28 = .ok (.iaload, 1) := by decide +kernel
theorem dX6_price_29 : decode cX6_price 29 = .ok (.istore_n 3, 1) := by decide +kernel
theorem dX6_price_30 : decode cX6_price 30 = .ok (.aload_n 0, 1) := by decide +kernel
theorem dX6_price_31 : decode cX6_price 31 = .ok (.getfield 21, 3) := by decide +kernel
theorem dX6_price_34 : decode cX6_price 34 = .ok (.getfield 173, 3) := by decide +kernel
theorem dX6_price_37 : decode cX6_price 37 = .ok (.iload_n 1, 1) := by decide +kernel
theorem dX6_price_38 : decode cX6_price 38 = .ok (.iload_n 2, 1) := by decide +kernel
theorem dX6_price_39 : decode cX6_price 39 = .ok (.iastore, 1) := by decide +kernel
theorem dX6_price_40 : decode cX6_price 40 = .ok (.iload_n 3, 1) := by decide +kernel
theorem dX6_price_41 : decode cX6_price 41 = .ok (.ireturn, 1) := by decide +kernel
theorem dX6_wish_0 : decode cX6_wish 0 = .ok (.aload_n 0, 1) := by decide +kernel
theorem dX6_wish_1 : decode cX6_wish 1 = .ok (.iload_n 1, 1) := by decide +kernel
theorem dX6_wish_2 : decode cX6_wish 2 = .ok (.invokevirtual 139, 3) := by decide +kernel
theorem dX6_wish_5 : decode cX6_wish 5 = .ok (.ifCond .ne 5, 3) := by decide +kernel
theorem dX6_wish_8 : decode cX6_wish 8 = .ok (.iconst (-1), 1) := by decide +kernel
theorem dX6_wish_9 : decode cX6_wish 9 = .ok (.ireturn, 1) := by decide +kernel
theorem dX6_wish_10 : decode cX6_wish 10 = .ok (.aload_n 0, 1) := by decide +kernel
theorem dX6_wish_11 : decode cX6_wish 11 = .ok (.aload_n 0, 1) := by decide +kernel
theorem dX6_wish_12 : decode cX6_wish 12 = .ok (.getfield 21, 3) := by decide +kernel
theorem dX6_wish_15 : decode cX6_wish 15 = .ok (.iload_n 1, 1) := by decide +kernel
theorem dX6_wish_16 : decode cX6_wish 16 = .ok (.invokevirtual 176, 3) := by decide +kernel
theorem dX6_wish_19 : decode cX6_wish 19 = .ok (.invokevirtual 84, 3) := by decide +kernel
theorem dX6_wish_22 : decode cX6_wish 22 = .ok (.ireturn, 1) := by decide +kernel
theorem dX6_minutes_0 : decode cX6_minutes 0 = .ok (.iload_n 1, 1) := by decide +kernel
theorem dX6_minutes_1 : decode cX6_minutes 1 = .ok (.bipush 20, 2) := by decide +kernel
theorem dX6_minutes_3 : decode cX6_minutes 3 = .ok (.invokestatic 179, 3) := by decide +kernel
theorem dX6_minutes_6 : decode cX6_minutes 6 = .ok (.ifCond .ne 5, 3) := by decide +kernel
theorem dX6_minutes_9 : decode cX6_minutes 9 = .ok (.iconst (-1), 1) := by decide +kernel
theorem dX6_minutes_10 : decode cX6_minutes 10 = .ok (.ireturn, 1) := by decide +kernel
theorem dX6_minutes_11 : decode cX6_minutes 11 = .ok (.aload_n 0, 1) := by decide +kernel
theorem dX6_minutes_12 : decode cX6_minutes 12 = .ok (.getfield 21, 3) := by decide +kernel
theorem dX6_minutes_15 : decode cX6_minutes 15 = .ok (.getfield 136, 3) := by decide +kernel
theorem dX6_minutes_18 : decode cX6_minutes 18 = .ok (.ifCond .ne 6, 3) := by decide +kernel
theorem dX6_minutes_21 : decode cX6_minutes 21 = .ok (.bipush (-4), 2) := by decide +kernel
theorem dX6_minutes_23 : decode cX6_minutes 23 = .ok (.ireturn, 1) := by decide +kernel
theorem dX6_minutes_24 : decode cX6_minutes 24 = .ok (.aload_n 0, 1) := by decide +kernel
theorem dX6_minutes_25 : decode cX6_minutes 25 = .ok (.getfield 21, 3) := by decide +kernel
theorem dX6_minutes_28 : decode cX6_minutes 28 = .ok (.getfield 126, 3) := by decide +kernel
theorem dX6_minutes_31 : decode cX6_minutes 31 = .ok (.iload_n 1, 1) := by decide +kernel
theorem dX6_minutes_32 : decode cX6_minutes 32 = .ok (.iadd, 1) := by decide +kernel
theorem dX6_minutes_33 : decode cX6_minutes 33 = .ok (.bipush 60, 2) := by decide +kernel
theorem dX6_minutes_35 : decode cX6_minutes 35 = .ok (.if_icmp .le 6, 3) := by decide +kernel
theorem dX6_minutes_38 : decode cX6_minutes 38 = .ok (.bipush (-2), 2) := by decide +kernel
theorem dX6_minutes_40 : decode cX6_minutes 40 = .ok (.ireturn, 1) := by decide +kernel
theorem dX6_minutes_41 : decode cX6_minutes 41 = .ok (.iconst 0, 1) := by decide +kernel
theorem dX6_minutes_42 : decode cX6_minutes 42 = .ok (.istore_n 2, 1) := by decide +kernel
theorem dX6_minutes_43 : decode cX6_minutes 43 = .ok (.iconst 0, 1) := by decide +kernel
theorem dX6_minutes_44 : decode cX6_minutes 44 = .ok (.istore_n 3, 1) := by decide +kernel
theorem dX6_minutes_45 : decode cX6_minutes 45 = .ok (.iload_n 3, 1) := by decide +kernel
theorem dX6_minutes_46 : decode cX6_minutes 46 = .ok (.iload_n 1, 1) := by decide +kernel
theorem dX6_minutes_47 : decode cX6_minutes 47 = .ok (.if_icmp .ge 31, 3) := by decide +kernel
theorem dX6_minutes_50 : decode cX6_minutes 50 = .ok (.aload_n 0, 1) := by decide +kernel
theorem dX6_minutes_51 : decode cX6_minutes 51 = .ok (.getfield 32, 3) := by decide +kernel
theorem dX6_minutes_54 : decode cX6_minutes 54 = .ok (.aload_n 0, 1) := by decide +kernel
theorem dX6_minutes_55 : decode cX6_minutes 55 = .ok (.getfield 21, 3) := by decide +kernel
theorem dX6_minutes_58 : decode cX6_minutes 58 = .ok (.invokevirtual 182, 3) := by decide +kernel
theorem dX6_minutes_61 : decode cX6_minutes 61 = .ok (.iload_n 2, 1) := by decide +kernel
theorem dX6_minutes_62 : decode cX6_minutes 62 = .ok (.aload_n 0, 1) := by decide +kernel
theorem dX6_minutes_63 : decode cX6_minutes 63 = .ok (.getfield 21, 3) := by decide +kernel
theorem dX6_minutes_66 : decode cX6_minutes 66 = .ok (.iconst 0, 1) := by decide +kernel
theorem dX6_minutes_67 : decode cX6_minutes 67 = .ok (.invokevirtual 185, 3) := by decide +kernel
theorem dX6_minutes_70 : decode cX6_minutes 70 = .ok (.iadd, 1) := by decide +kernel
theorem dX6_minutes_71 : decode cX6_minutes 71 = .ok (.istore_n 2, 1) := by decide +kernel
theorem dX6_minutes_72 : decode cX6_minutes 72 = .ok (.iinc 3 1, 3) := by decide +kernel
theorem dX6_minutes_75 : decode cX6_minutes 75 = .ok (.goto (-30), 3) := by decide +kernel
theorem dX6_minutes_78 : decode cX6_minutes 78 = .ok (.iload_n 2, 1) := by decide +kernel
theorem dX6_minutes_79 : decode cX6_minutes 79 = .ok (.ireturn, 1) := by decide +kernel
theorem dX6_undo_0 : decode cX6_undo 0 = .ok (.iload_n 1, 1) := by decide +kernel
theorem dX6_undo_1 : decode cX6_undo 1 = .ok (.aload_n 0, 1) := by decide +kernel
theorem dX6_undo_2 : decode cX6_undo 2 = .ok (.getfield 32, 3) := by decide +kernel
theorem dX6_undo_5 : decode cX6_undo 5 = .ok (.invokevirtual 188, 3) := by decide +kernel
theorem dX6_undo_8 : decode cX6_undo 8 = .ok (.if_icmp .lt 14, 3) := by decide +kernel
theorem dX6_undo_11 : decode cX6_undo 11 = .ok (.iload_n 1, 1) := by decide +kernel
theorem dX6_undo_12 : decode cX6_undo 12 = .ok (.aload_n 0, 1) := by decide +kernel
theorem dX6_undo_13 : decode cX6_undo 13 = .ok (.getfield 21, 3) := by decide +kernel
theorem dX6_undo_16 : decode cX6_undo 16 = .ok (.getfield 126, 3) := by decide +kernel
theorem dX6_undo_19 : decode cX6_undo 19 = .ok (.if_icmp .le 5, 3) := by decide +kernel
theorem dX6_undo_22 : decode cX6_undo 22 = .ok (.iconst (-1), 1) := by decide +kernel
theorem dX6_undo_23 : decode cX6_undo 23 = .ok (.ireturn, 1) := by decide +kernel
theorem dX6_undo_24 : decode cX6_undo 24 = .ok (.aload_n 0, 1) := by decide +kernel
theorem dX6_undo_25 : decode cX6_undo 25 = .ok (.getfield 21, 3) := by decide +kernel
theorem dX6_undo_28 : decode cX6_undo 28 = .ok (.getfield 126, 3) := by decide +kernel
theorem dX6_undo_31 : decode cX6_undo 31 = .ok (.iload_n 1, 1) := by decide +kernel
theorem dX6_undo_32 : decode cX6_undo 32 = .ok (.isub, 1) := by decide +kernel
theorem dX6_undo_33 : decode cX6_undo 33 = .ok (.istore_n 2, 1) := by decide +kernel
theorem dX6_undo_34 : decode cX6_undo 34 = .ok (.iload_n 2, 1) := by decide +kernel
theorem dX6_undo_35 : decode cX6_undo 35 = .ok (.ifCond .le 15, 3) := by decide +kernel
theorem dX6_undo_38 : decode cX6_undo 38 = .ok (.aload_n 0, 1) := by decide +kernel
theorem dX6_undo_39 : decode cX6_undo 39 = .ok (.getfield 32, 3) := by decide +kernel
theorem dX6_undo_42 : decode cX6_undo 42 = .ok (.aload_n 0, 1) := by decide +kernel
theorem dX6_undo_43 : decode cX6_undo 43 = .ok (.getfield 21, 3) := by decide +kernel
theorem dX6_undo_46 : decode cX6_undo 46 = .ok (.iload_n 1, 1) := by decide +kernel
theorem dX6_undo_47 : decode cX6_undo 47 = .ok (.invokevirtual 191, 3) := by decide +kernel
theorem dX6_undo_50 : decode cX6_undo 50 = .ok (.iload_n 2, 1) := by decide +kernel
theorem dX6_undo_51 : decode cX6_undo 51 = .ok (.ireturn, 1) := by decide +kernel
theorem dX6_turn_0 : decode cX6_turn 0 = .ok (.iload_n 1, 1) := by decide +kernel
theorem dX6_turn_1 : decode cX6_turn 1 = .ok (.ifCond .eq 10, 3) := by decide +kernel
theorem dX6_turn_4 : decode cX6_turn 4 = .ok (.iload_n 1, 1) := by decide +kernel
theorem dX6_turn_5 : decode cX6_turn 5 = .ok (.iconst 1, 1) := by decide +kernel
theorem dX6_turn_6 : decode cX6_turn 6 = .ok (.if_icmp .eq 5, 3) := by decide +kernel
theorem dX6_turn_9 : decode cX6_turn 9 = .ok (.iconst (-1), 1) := by decide +kernel
theorem dX6_turn_10 : decode cX6_turn 10 = .ok (.ireturn, 1) := by decide +kernel
theorem dX6_turn_11 : decode cX6_turn 11 = .ok (.aload_n 0, 1) := by decide +kernel
theorem dX6_turn_12 : decode cX6_turn 12 = .ok (.getfield 21, 3) := by decide +kernel
theorem dX6_turn_15 : decode cX6_turn 15 = .ok (.getfield 136, 3) := by decide +kernel
theorem dX6_turn_18 : decode cX6_turn 18 = .ok (.ifCond .ne 6, 3) := by decide +kernel
theorem dX6_turn_21 : decode cX6_turn 21 = .ok (.bipush (-4), 2) := by decide +kernel
theorem dX6_turn_23 : decode cX6_turn 23 = .ok (.ireturn, 1) := by decide +kernel
theorem dX6_turn_24 : decode cX6_turn 24 = .ok (.aload_n 0, 1) := by decide +kernel
theorem dX6_turn_25 : decode cX6_turn 25 = .ok (.getfield 21, 3) := by decide +kernel
theorem dX6_turn_28 : decode cX6_turn 28 = .ok (.iload_n 1, 1) := by decide +kernel
theorem dX6_turn_29 : decode cX6_turn 29 = .ok (.ifCond .ne 7, 3) := by decide +kernel
theorem dX6_turn_32 : decode cX6_turn 32 = .ok (.iconst (-1), 1) := by decide +kernel
theorem dX6_turn_33 : decode cX6_turn 33 = .ok (.goto 4, 3) := by decide +kernel
theorem dX6_turn_36 : decode cX6_turn 36 = .ok (.iconst 1, 1) := by decide +kernel
theorem dX6_turn_37 : decode cX6_turn 37 = .ok (.invokevirtual 195, 3) := by decide +kernel
theorem dX6_turn_40 : decode cX6_turn 40 = .ok (.ifCond .eq 7, 3) := by decide +kernel
theorem dX6_turn_43 : decode cX6_turn 43 = .ok (.iconst 1, 1) := by decide +kernel
theorem dX6_turn_44 : decode cX6_turn 44 = .ok (.goto 4, 3) := by decide +kernel
theorem dX6_turn_47 : decode cX6_turn 47 = .ok (.iconst 0, 1) := by decide +kernel
theorem dX6_turn_48 : decode cX6_turn 48 = .ok (.ireturn, 1) := by decide +kernel
theorem dX6_shade_0 : decode cX6_shade 0 = .ok (.aload_n 0, 1) := by decide +kernel
theorem dX6_shade_1 : decode cX6_shade 1 = .ok (.getfield 21, 3) := by decide +kernel
theorem dX6_shade_4 : decode cX6_shade 4 = .ok (.getfield 136, 3) := by decide +kernel
theorem dX6_shade_7 : decode cX6_shade 7 = .ok (.ifCond .ne 6, 3) := by decide +kernel
theorem dX6_shade_10 : decode cX6_shade 10 = .ok (.bipush (-4), 2) := by decide +kernel
theorem dX6_shade_12 : decode cX6_shade 12 = .ok (.ireturn, 1) := by decide +kernel
theorem dX6_shade_13 : decode cX6_shade 13 = .ok (.aload_n 0, 1) := by decide +kernel
theorem dX6_shade_14 : decode cX6_shade 14 = .ok (.aload_n 0, 1) := by decide +kernel
theorem dX6_shade_15 : decode cX6_shade 15 = .ok (.getfield 21, 3) := by decide +kernel
theorem dX6_shade_18 : decode cX6_shade 18 = .ok (.getfield 161, 3) := by decide +kernel
theorem dX6_shade_21 : decode cX6_shade 21 = .ok (.iconst 0, 1) := by decide +kernel
theorem dX6_shade_22 : decode cX6_shade 22 = .ok (.iaload, 1) := by decide +kernel
theorem dX6_shade_23 : decode cX6_shade 23 = .ok (.aload_n 0, 1) := by decide +kernel
theorem dX6_shade_24 : decode cX6_shade 24 = .ok (.getfield 21, 3) := by decide +kernel
theorem dX6_shade_27 : decode cX6_shade 27 = .ok (.invokevirtual 198, 3) := by decide +kernel
theorem dX6_shade_30 : decode cX6_shade 30 = .ok (.iadd, 1) := by decide +kernel
theorem dX6_shade_31 : decode cX6_shade 31 = .ok (.putfield 201, 3) := by decide +kernel
theorem dX6_shade_34 : decode cX6_shade 34 = .ok (.aload_n 0, 1) := by decide +kernel
theorem dX6_shade_35 : decode cX6_shade 35 = .ok (.getfield 21, 3) := by decide +kernel
theorem dX6_shade_38 : decode cX6_shade 38 = .ok (.invokevirtual 204, 3) := by decide +kernel
theorem dX6_shade_41 : decode cX6_shade 41 = .ok (.aload_n 0, 1) := by decide +kernel
theorem dX6_shade_42 : decode cX6_shade 42 = .ok (.getfield 21, 3) := by decide +kernel
theorem dX6_shade_45 : decode cX6_shade 45 = .ok (.getfield 161, 3) := by decide +kernel
theorem dX6_shade_48 : decode cX6_shade 48 = .ok (.iconst 0, 1) := by decide +kernel
theorem dX6_shade_49 : decode cX6_shade 49 = .ok (.iaload, 1) := by decide +kernel
theorem dX6_shade_50 : decode cX6_shade 50 = .ok (.isub, 1) := by decide +kernel
theorem dX6_shade_51 : decode cX6_shade 51 = .ok (.iconst 1, 1) := by decide +kernel
theorem dX6_shade_52 : decode cX6_shade 52 = .ok (.iadd, 1) := by decide +kernel
theorem dX6_shade_53 : decode cX6_shade 53 = .ok (.ireturn, 1) := by decide +kernel
theorem dX6_shaded_0 : decode cX6_shaded 0 = .ok (.aload_n 0, 1) := by decide +kernel
theorem dX6_shaded_1 : decode cX6_shaded 1 = .ok (.getfield 21, 3) := by decide +kernel
theorem dX6_shaded_4 : decode cX6_shaded 4 = .ok (.aload_n 0, 1) := by decide +kernel
theorem dX6_shaded_5 : decode cX6_shaded 5 = .ok (.getfield 21, 3) := by decide +kernel
theorem dX6_shaded_8 : decode cX6_shaded 8 = .ok (.invokevirtual 198, 3) := by decide +kernel
theorem dX6_shaded_11 : decode cX6_shaded 11 = .ok (.invokevirtual 207, 3) := by decide +kernel
theorem dX6_shaded_14 : decode cX6_shaded 14 = .ok (.ireturn, 1) := by decide +kernel
theorem dX6_keep_0 : decode cX6_keep 0 = .ok (.iload_n 1, 1) := by decide +kernel
theorem dX6_keep_1 : decode cX6_keep 1 = .ok (.iconst 3, 1) := by decide +kernel
theorem dX6_keep_2 : decode cX6_keep 2 = .ok (.invokestatic 64, 3) := by decide +kernel
theorem dX6_keep_5 : decode cX6_keep 5 = .ok (.ifCond .ne 5, 3) := by decide +kernel
theorem dX6_keep_8 : decode cX6_keep 8 = .ok (.iconst (-1), 1) := by decide +kernel
theorem dX6_keep_9 : decode cX6_keep 9 = .ok (.ireturn, 1) := by decide +kernel
theorem dX6_keep_10 : decode cX6_keep 10 = .ok (.aload_n 0, 1) := by decide +kernel
theorem dX6_keep_11 : decode cX6_keep 11 = .ok (.getfield 21, 3) := by decide +kernel
theorem dX6_keep_14 : decode cX6_keep 14 = .ok (.getfield 136, 3) := by decide +kernel
theorem dX6_keep_17 : decode cX6_keep 17 = .ok (.ifCond .ne 6, 3) := by decide +kernel
theorem dX6_keep_20 : decode cX6_keep 20 = .ok (.bipush (-4), 2) := by decide +kernel
theorem dX6_keep_22 : decode cX6_keep 22 = .ok (.ireturn, 1) := by decide +kernel
theorem dX6_keep_23 : decode cX6_keep 23 = .ok (.aload_n 0, 1) := by decide +kernel
theorem dX6_keep_24 : decode cX6_keep 24 = .ok (.getfield 25, 3) := by decide +kernel
theorem dX6_keep_27 : decode cX6_keep 27 = .ok (.iload_n 1, 1) := by decide +kernel
theorem dX6_keep_28 : decode cX6_keep 28 = .ok (.aaload, 1) := by decide +kernel
theorem dX6_keep_29 : decode cX6_keep 29 = .ok (.aload_n 0, 1) := by decide +kernel
theorem dX6_keep_30 : decode cX6_keep 30 = .ok (.getfield 21, 3) := by decide +kernel
theorem dX6_keep_33 : decode cX6_keep 33 = .ok (.invokevirtual 119, 3) := by decide +kernel
theorem dX6_keep_36 : decode cX6_keep 36 = .ok (.aload_n 0, 1) := by decide +kernel
theorem dX6_keep_37 : decode cX6_keep 37 = .ok (.getfield 21, 3) := by decide +kernel
theorem dX6_keep_40 : decode cX6_keep 40 = .ok (.getfield 126, 3) := by decide +kernel
theorem dX6_keep_43 : decode cX6_keep 43 = .ok (.ireturn, 1) := by decide +kernel
theorem dX6_on_0 : decode cX6_on 0 = .ok (.iload_n 1, 1) := by decide +kernel
theorem dX6_on_1 : decode cX6_on 1 = .ok (.iconst 3, 1) := by decide +kernel
theorem dX6_on_2 : decode cX6_on 2 = .ok (.invokestatic 64, 3) := by decide +kernel
theorem dX6_on_5 : decode cX6_on 5 = .ok (.ifCond .ne 5, 3) := by decide +kernel
theorem dX6_on_8 : decode cX6_on 8 = .ok (.iconst (-1), 1) := by decide +kernel
theorem dX6_on_9 : decode cX6_on 9 = .ok (.ireturn, 1) := by decide +kernel
theorem dX6_on_10 : decode cX6_on 10 = .ok (.aload_n 0, 1) := by decide +kernel
theorem dX6_on_11 : decode cX6_on 11 = .ok (.iload_n 1, 1) := by decide +kernel
theorem dX6_on_12 : decode cX6_on 12 = .ok (.invokevirtual 210, 3) := by decide +kernel
theorem dX6_on_15 : decode cX6_on 15 = .ok (.ifCond .ne 9, 3) := by decide +kernel
theorem dX6_on_18 : decode cX6_on 18 = .ok (.aload_n 0, 1) := by decide +kernel
theorem dX6_on_19 : decode cX6_on 19 = .ok (.iconst 1, 1) := by decide +kernel
theorem dX6_on_20 : decode cX6_on 20 = .ok (.invokevirtual 68, 3) := by decide +kernel
theorem dX6_on_23 : decode cX6_on 23 = .ok (.ireturn, 1) := by decide +kernel
theorem dX6_on_24 : decode cX6_on 24 = .ok (.aload_n 0, 1) := by decide +kernel
theorem dX6_on_25 : decode cX6_on 25 = .ok (.getfield 21, 3) := by decide +kernel
theorem dX6_on_28 : decode cX6_on 28 = .ok (.aload_n 0, 1) := by decide +kernel
theorem dX6_on_29 : decode cX6_on 29 = .ok (.getfield 25, 3) := by decide +kernel
theorem dX6_on_32 : decode cX6_on 32 = .ok (.iload_n 1, 1) := by decide +kernel
theorem dX6_on_33 : decode cX6_on 33 = .ok (.aaload, 1) := by decide +kernel
theorem dX6_on_34 : decode cX6_on 34 = .ok (.invokevirtual 119, 3) := by decide +kernel
theorem dX6_on_37 : decode cX6_on 37 = .ok (.aload_n 0, 1) := by decide +kernel
theorem dX6_on_38 : decode cX6_on 38 = .ok (.getfield 32, 3) := by decide +kernel
theorem dX6_on_41 : decode cX6_on 41 = .ok (.aload_n 0, 1) := by decide +kernel
theorem dX6_on_42 : decode cX6_on 42 = .ok (.getfield 21, 3) := by decide +kernel
theorem dX6_on_45 : decode cX6_on 45 = .ok (.getfield 126, 3) := by decide +kernel
theorem dX6_on_48 : decode cX6_on 48 = .ok (.invokevirtual 130, 3) := by decide +kernel
theorem dX6_on_51 : decode cX6_on 51 = .ok (.aload_n 0, 1) := by decide +kernel
theorem dX6_on_52 : decode cX6_on 52 = .ok (.getfield 21, 3) := by decide +kernel
theorem dX6_on_55 : decode cX6_on 55 = .ok (.getfield 126, 3) := by decide +kernel
theorem dX6_on_58 : decode cX6_on 58 = .ok (.ireturn, 1) := by decide +kernel
theorem dX6_when_0 : decode cX6_when 0 = .ok (.aload_n 0, 1) := by decide +kernel
theorem dX6_when_1 : decode cX6_when 1 = .ok (.iload_n 1, 1) := by decide +kernel
theorem dX6_when_2 : decode cX6_when 2 = .ok (.invokevirtual 139, 3) := by decide +kernel
theorem dX6_when_5 : decode cX6_when 5 = .ok (.ifCond .ne 5, 3) := by decide +kernel
theorem dX6_when_8 : decode cX6_when 8 = .ok (.iconst (-1), 1) := by decide +kernel
theorem dX6_when_9 : decode cX6_when 9 = .ok (.ireturn, 1) := by decide +kernel
theorem dX6_when_10 : decode cX6_when 10 = .ok (.aload_n 0, 1) := by decide +kernel
theorem dX6_when_11 : decode cX6_when 11 = .ok (.getfield 46, 3) := by decide +kernel
theorem dX6_when_14 : decode cX6_when 14 = .ok (.aload_n 0, 1) := by decide +kernel
theorem dX6_when_15 : decode cX6_when 15 = .ok (.getfield 21, 3) := by decide +kernel
theorem dX6_when_18 : decode cX6_when 18 = .ok (.iload_n 1, 1) := by decide +kernel
theorem dX6_when_19 : decode cX6_when 19 = .ok (.invokevirtual 213, 3) := by decide +kernel
theorem dX6_when_22 : decode cX6_when 22 = .ok (.istore_n 2, 1) := by decide +kernel
theorem dX6_when_23 : decode cX6_when 23 = .ok (.iload_n 2, 1) := by decide +kernel
theorem dX6_when_24 : decode cX6_when 24 = .ok (.bipush (-9), 2) := by decide +kernel
theorem dX6_when_26 : decode cX6_when 26 = .ok (.if_icmp .eq 14, 3) := by decide +kernel
theorem dX6_when_29 : decode cX6_when 29 = .ok (.aload_n 0, 1) := by decide +kernel
theorem dX6_when_30 : decode cX6_when 30 = .ok (.aload_n 0, 1) := by decide +kernel
theorem dX6_when_31 : decode cX6_when 31 = .ok (.getfield 46, 3) := by decide +kernel
theorem dX6_when_34 : decode cX6_when 34 = .ok (.getfield 217, 3) := by decide +kernel
theorem dX6_when_37 : decode cX6_when 37 = .ok (.putfield 201, 3) := by decide +kernel
theorem dX6_when_40 : decode cX6_when 40 = .ok (.iload_n 2, 1) := by decide +kernel
theorem dX6_when_41 : decode cX6_when 41 = .ok (.ireturn, 1) := by decide +kernel
theorem dX6_bought_0 : decode cX6_bought 0 = .ok (.iload_n 1, 1) := by decide +kernel
theorem dX6_bought_1 : decode cX6_bought 1 = .ok (.bipush 60, 2) := by decide +kernel
theorem dX6_bought_3 : decode cX6_bought 3 = .ok (.invokestatic 179, 3) := by decide +kernel
theorem dX6_bought_6 : decode cX6_bought 6 = .ok (.ifCond .ne 5, 3) := by decide +kernel
theorem dX6_bought_9 : decode cX6_bought 9 = .ok (.iconst (-1), 1) := by decide +kernel
theorem dX6_bought_10 : decode cX6_bought 10 = .ok (.ireturn, 1) := by decide +kernel
theorem dX6_bought_11 : decode cX6_bought 11 = .ok (.aload_n 0, 1) := by decide +kernel
theorem dX6_bought_12 : decode cX6_bought 12 = .ok (.getfield 46, 3) := by decide +kernel
theorem dX6_bought_15 : decode cX6_bought 15 = .ok (.aload_n 0, 1) := by decide +kernel
theorem dX6_bought_16 : decode cX6_bought 16 = .ok (.getfield 21, 3) := by decide +kernel
theorem dX6_bought_19 : decode cX6_bought 19 = .ok (.iload_n 1, 1) := by decide +kernel
theorem dX6_bought_20 : decode cX6_bought 20 = .ok (.invokevirtual 220, 3) := by decide +kernel
theorem dX6_bought_23 : decode cX6_bought 23 = .ok (.istore_n 2, 1) := by decide +kernel
theorem dX6_bought_24 : decode cX6_bought 24 = .ok (.aload_n 0, 1) := by decide +kernel
theorem dX6_bought_25 : decode cX6_bought 25 = .ok (.aload_n 0, 1) := by decide +kernel
theorem dX6_bought_26 : decode cX6_bought 26 = .ok (.getfield 46, 3) := by decide +kernel
theorem dX6_bought_29 : decode cX6_bought 29 = .ok (.getfield 217, 3) := by decide +kernel
theorem dX6_bought_32 : decode cX6_bought 32 = .ok (.putfield 201, 3) := by decide +kernel
theorem dX6_bought_35 : decode cX6_bought 35 = .ok (.iload_n 2, 1) := by decide +kernel
theorem dX6_bought_36 : decode cX6_bought 36 = .ok (.ireturn, 1) := by decide +kernel
theorem dX6_rest_0 : decode cX6_rest 0 = .ok (.aload_n 0, 1) := by decide +kernel
theorem dX6_rest_1 : decode cX6_rest 1 = .ok (.getfield 21, 3) := by decide +kernel
theorem dX6_rest_4 : decode cX6_rest 4 = .ok (.getfield 136, 3) := by decide +kernel
theorem dX6_rest_7 : decode cX6_rest 7 = .ok (.ifCond .ne 6, 3) := by decide +kernel
theorem dX6_rest_10 : decode cX6_rest 10 = .ok (.bipush (-4), 2) := by decide +kernel
theorem dX6_rest_12 : decode cX6_rest 12 = .ok (.ireturn, 1) := by decide +kernel
theorem dX6_rest_13 : decode cX6_rest 13 = .ok (.aload_n 0, 1) := by decide +kernel
theorem dX6_rest_14 : decode cX6_rest 14 = .ok (.getfield 46, 3) := by decide +kernel
theorem dX6_rest_17 : decode cX6_rest 17 = .ok (.aload_n 0, 1) := by decide +kernel
theorem dX6_rest_18 : decode cX6_rest 18 = .ok (.getfield 21, 3) := by decide +kernel
theorem dX6_rest_21 : decode cX6_rest 21 = .ok (.invokevirtual 223, 3) := by decide +kernel
theorem dX6_rest_24 : decode cX6_rest 24 = .ok (.istore_n 1, 1) := by decide +kernel
theorem dX6_rest_25 : decode cX6_rest 25 = .ok (.iload_n 1, 1) := by decide +kernel
theorem dX6_rest_26 : decode cX6_rest 26 = .ok (.bipush (-9), 2) := by decide +kernel
theorem dX6_rest_28 : decode cX6_rest 28 = .ok (.if_icmp .eq 14, 3) := by decide +kernel
theorem dX6_rest_31 : decode cX6_rest 31 = .ok (.aload_n 0, 1) := by decide +kernel
theorem dX6_rest_32 : decode cX6_rest 32 = .ok (.aload_n 0, 1) := by decide +kernel
theorem dX6_rest_33 : decode cX6_rest 33 = .ok (.getfield 46, 3) := by decide +kernel
theorem dX6_rest_36 : decode cX6_rest 36 = .ok (.getfield 217, 3) := by decide +kernel
theorem dX6_rest_39 : decode cX6_rest 39 = .ok (.putfield 201, 3) := by decide +kernel
theorem dX6_rest_42 : decode cX6_rest 42 = .ok (.iload_n 1, 1) := by decide +kernel
theorem dX6_rest_43 : decode cX6_rest 43 = .ok (.ireturn, 1) := by decide +kernel
theorem dX6_track_0 : decode cX6_track 0 = .ok (.iload_n 1, 1) := by decide +kernel
theorem dX6_track_1 : decode cX6_track 1 = .ok (.bipush 60, 2) := by decide +kernel
theorem dX6_track_3 : decode cX6_track 3 = .ok (.invokestatic 179, 3) := by decide +kernel
theorem dX6_track_6 : decode cX6_track 6 = .ok (.ifCond .eq 12, 3) := by decide +kernel
theorem dX6_track_9 : decode cX6_track 9 = .ok (.iload_n 2, 1) := by decide +kernel
theorem dX6_track_10 : decode cX6_track 10 = .ok (.bipush 6, 2) := by decide +kernel
theorem dX6_track_12 : decode cX6_track 12 = .ok (.invokestatic 64, 3) := by decide +kernel
theorem dX6_track_15 : decode cX6_track 15 = .ok (.ifCond .ne 5, 3) := by decide +kernel
theorem dX6_track_18 : decode cX6_track 18 = .ok (.iconst (-1), 1) := by decide +kernel
theorem dX6_track_19 : decode cX6_track 19 = .ok (.ireturn, 1) := by decide +kernel
theorem dX6_track_20 : decode cX6_track 20 = .ok (.aload_n 0, 1) := by decide +kernel
theorem dX6_track_21 : decode cX6_track 21 = .ok (.aload_n 0, 1) := by decide +kernel
theorem dX6_track_22 : decode cX6_track 22 = .ok (.getfield 46, 3) := by decide +kernel
theorem dX6_track_25 : decode cX6_track 25 = .ok (.aload_n 0, 1) := by decide +kernel
theorem dX6_track_26 : decode cX6_track 26 = .ok (.getfield 21, 3) := by decide +kernel
theorem dX6_track_29 : decode cX6_track 29 = .ok (.iload_n 1, 1) := by decide +kernel
theorem dX6_track_30 : decode cX6_track 30 = .ok (.aload_n 0, 1) := by decide +kernel
theorem dX6_track_31 : decode cX6_track 31 = .ok (.getfield 11, 3) := by decide +kernel
theorem dX6_track_34 : decode cX6_track 34 = .ok (.iload_n 2, 1) := by decide +kernel
theorem dX6_track_35 : decode cX6_track 35 = .ok (.aaload, 1) := by decide +kernel
theorem dX6_track_36 : decode cX6_track 36 = .ok (.invokevirtual 227, 3) := by decide +kernel
theorem dX6_track_39 : decode cX6_track 39 = .ok (.invokevirtual 84, 3) := by decide +kernel
theorem dX6_track_42 : decode cX6_track 42 = .ok (.ireturn, 1) := by decide +kernel
theorem dX6_best_0 : decode cX6_best 0 = .ok (.iload_n 1, 1) := by decide +kernel
theorem dX6_best_1 : decode cX6_best 1 = .ok (.bipush 20, 2) := by decide +kernel
theorem dX6_best_3 : decode cX6_best 3 = .ok (.invokestatic 179, 3) := by decide +kernel
theorem dX6_best_6 : decode cX6_best 6 = .ok (.ifCond .eq 12, 3) := by decide +kernel
theorem dX6_best_9 : decode cX6_best 9 = .ok (.iload_n 2, 1) := by decide +kernel
theorem dX6_best_10 : decode cX6_best 10 = .ok (.bipush 6, 2) := by decide +kernel
theorem dX6_best_12 : decode cX6_best 12 = .ok (.invokestatic 64, 3) := by decide +kernel
theorem dX6_best_15 : decode cX6_best 15 = .ok (.ifCond .ne 5, 3) := by decide +kernel
theorem dX6_best_18 : decode cX6_best 18 = .ok (.iconst (-1), 1) := by decide +kernel
theorem dX6_best_19 : decode cX6_best 19 = .ok (.ireturn, 1) := by decide +kernel
theorem dX6_best_20 : decode cX6_best 20 = .ok (.aload_n 0, 1) := by decide +kernel
theorem dX6_best_21 : decode cX6_best 21 = .ok (.getfield 21, 3) := by decide +kernel
theorem dX6_best_24 : decode cX6_best 24 = .ok (.getfield 136, 3) := by decide +kernel
theorem dX6_best_27 : decode cX6_best 27 = .ok (.ifCond .ne 6, 3) := by decide +kernel
theorem dX6_best_30 : decode cX6_best 30 = .ok (.bipush (-4), 2) := by decide +kernel
theorem dX6_best_32 : decode cX6_best 32 = .ok (.ireturn, 1) := by decide +kernel
theorem dX6_best_33 : decode cX6_best 33 = .ok (.aload_n 0, 1) := by decide +kernel
theorem dX6_best_34 : decode cX6_best 34 = .ok (.getfield 46, 3) := by decide +kernel
theorem dX6_best_37 : decode cX6_best 37 = .ok (.aload_n 0, 1) := by decide +kernel
theorem dX6_best_38 : decode cX6_best 38 = .ok (.getfield 21, 3) := by decide +kernel
theorem dX6_best_41 : decode cX6_best 41 = .ok (.iload_n 1, 1) := by decide +kernel
theorem dX6_best_42 : decode cX6_best 42 = .ok (.aload_n 0, 1) := by decide +kernel
theorem dX6_best_43 : decode cX6_best 43 = .ok (.getfield 11, 3) := by decide +kernel
theorem dX6_best_46 : decode cX6_best 46 = .ok (.iload_n 2, 1) := by decide +kernel
theorem dX6_best_47 : decode cX6_best 47 = .ok (.aaload, 1) := by decide +kernel
theorem dX6_best_48 : decode cX6_best 48 = .ok (.invokevirtual 231, 3) := by decide +kernel
theorem dX6_best_51 : decode cX6_best 51 = .ok (.ireturn, 1) := by decide +kernel
theorem dX6_spot_0 : decode cX6_spot 0 = .ok (.aload_n 0, 1) := by decide +kernel
theorem dX6_spot_1 : decode cX6_spot 1 = .ok (.iload_n 1, 1) := by decide +kernel
theorem dX6_spot_2 : decode cX6_spot 2 = .ok (.invokevirtual 146, 3) := by decide +kernel
theorem dX6_spot_5 : decode cX6_spot 5 = .ok (.ifCond .eq 12, 3) := by decide +kernel
theorem dX6_spot_8 : decode cX6_spot 8 = .ok (.iload_n 2, 1) := by decide +kernel
theorem dX6_spot_9 : decode cX6_spot 9 = .ok (.bipush 20, 2) := by decide +kernel
theorem dX6_spot_11 : decode cX6_spot 11 = .ok (.invokestatic 179, 3) := by decide +kernel
theorem dX6_spot_14 : decode cX6_spot 14 = .ok (.ifCond .ne 5, 3) := by decide +kernel
theorem dX6_spot_17 : decode cX6_spot 17 = .ok (.iconst (-1), 1) := by decide +kernel
theorem dX6_spot_18 : decode cX6_spot 18 = .ok (.ireturn, 1) := by decide +kernel
theorem dX6_spot_19 : decode cX6_spot 19 = .ok (.aload_n 0, 1) := by decide +kernel
theorem dX6_spot_20 : decode cX6_spot 20 = .ok (.getfield 21, 3) := by decide +kernel
theorem dX6_spot_23 : decode cX6_spot 23 = .ok (.getfield 136, 3) := by decide +kernel
theorem dX6_spot_26 : decode cX6_spot 26 = .ok (.ifCond .ne 6, 3) := by decide +kernel
theorem dX6_spot_29 : decode cX6_spot 29 = .ok (.bipush (-4), 2) := by decide +kernel
theorem dX6_spot_31 : decode cX6_spot 31 = .ok (.ireturn, 1) := by decide +kernel
theorem dX6_spot_32 : decode cX6_spot 32 = .ok (.aload_n 0, 1) := by decide +kernel
theorem dX6_spot_33 : decode cX6_spot 33 = .ok (.getfield 46, 3) := by decide +kernel
theorem dX6_spot_36 : decode cX6_spot 36 = .ok (.aload_n 0, 1) := by decide +kernel
theorem dX6_spot_37 : decode cX6_spot 37 = .ok (.getfield 21, 3) := by decide +kernel
theorem dX6_spot_40 : decode cX6_spot 40 = .ok (.iload_n 1, 1) := by decide +kernel
theorem dX6_spot_41 : decode cX6_spot 41 = .ok (.iload_n 2, 1) := by decide +kernel
theorem dX6_spot_42 : decode cX6_spot 42 = .ok (.invokevirtual 234, 3) := by decide +kernel
theorem dX6_spot_45 : decode cX6_spot 45 = .ok (.istore_n 3, 1) := by decide +kernel
theorem dX6_spot_46 : decode cX6_spot 46 = .ok (.aload_n 0, 1) := by decide +kernel
theorem dX6_spot_47 : decode cX6_spot 47 = .ok (.aload_n 0, 1) := by decide +kernel
theorem dX6_spot_48 : decode cX6_spot 48 = .ok (.getfield 46, 3) := by decide +kernel
theorem dX6_spot_51 : decode cX6_spot 51 = .ok (.getfield 217, 3) := by decide +kernel
theorem dX6_spot_54 : decode cX6_spot 54 = .ok (.putfield 201, 3) := by decide +kernel
theorem dX6_spot_57 : decode cX6_spot 57 = .ok (.iload_n 3, 1) := by decide +kernel
theorem dX6_spot_58 : decode cX6_spot 58 = .ok (.ireturn, 1) := by decide +kernel
theorem dX6_missed_0 : decode cX6_missed 0 = .ok (.iload_n 1, 1) := by decide +kernel
theorem dX6_missed_1 : decode cX6_missed 1 = .ok (.bipush 20, 2) := by decide +kernel
theorem dX6_missed_3 : decode cX6_missed 3 = .ok (.invokestatic 179, 3) := by decide +kernel
theorem dX6_missed_6 : decode cX6_missed 6 = .ok (.ifCond .ne 5, 3) := by decide +kernel
theorem dX6_missed_9 : decode cX6_missed 9 = .ok (.iconst (-1), 1) := by decide +kernel
theorem dX6_missed_10 : decode cX6_missed 10 = .ok (.ireturn, 1) := by decide +kernel
theorem dX6_missed_11 : decode cX6_missed 11 = .ok (.aload_n 0, 1) := by decide +kernel
theorem dX6_missed_12 : decode cX6_missed 12 = .ok (.getfield 21, 3) := by decide +kernel
theorem dX6_missed_15 : decode cX6_missed 15 = .ok (.getfield 136, 3) := by decide +kernel
theorem dX6_missed_18 : decode cX6_missed 18 = .ok (.ifCond .ne 6, 3) := by decide +kernel
theorem dX6_missed_21 : decode cX6_missed 21 = .ok (.bipush (-4), 2) := by decide +kernel
theorem dX6_missed_23 : decode cX6_missed 23 = .ok (.ireturn, 1) := by decide +kernel
theorem dX6_missed_24 : decode cX6_missed 24 = .ok (.aload_n 0, 1) := by decide +kernel
theorem dX6_missed_25 : decode cX6_missed 25 = .ok (.getfield 46, 3) := by decide +kernel
theorem dX6_missed_28 : decode cX6_missed 28 = .ok (.aload_n 0, 1) := by decide +kernel
theorem dX6_missed_29 : decode cX6_missed 29 = .ok (.getfield 21, 3) := by decide +kernel
theorem dX6_missed_32 : decode cX6_missed 32 = .ok (.iload_n 1, 1) := by decide +kernel
theorem dX6_missed_33 : decode cX6_missed 33 = .ok (.invokevirtual 238, 3) := by decide +kernel
theorem dX6_missed_36 : decode cX6_missed 36 = .ok (.istore_n 2, 1) := by decide +kernel
theorem dX6_missed_37 : decode cX6_missed 37 = .ok (.aload_n 0, 1) := by decide +kernel
theorem dX6_missed_38 : decode cX6_missed 38 = .ok (.aload_n 0, 1) := by decide +kernel
theorem dX6_missed_39 : decode cX6_missed 39 = .ok (.getfield 46, 3) := by decide +kernel
theorem dX6_missed_42 : decode cX6_missed 42 = .ok (.getfield 217, 3) := by decide +kernel
theorem dX6_missed_45 : decode cX6_missed 45 = .ok (.putfield 201, 3) := by decide +kernel
theorem dX6_missed_48 : decode cX6_missed 48 = .ok (.iload_n 2, 1) := by decide +kernel
theorem dX6_missed_49 : decode cX6_missed 49 = .ok (.ireturn, 1) := by decide +kernel
theorem dX6_fewest_0 : decode cX6_fewest 0 = .ok (.aload_n 0, 1) := by decide +kernel
theorem dX6_fewest_1 : decode cX6_fewest 1 = .ok (.getfield 21, 3) := by decide +kernel
theorem dX6_fewest_4 : decode cX6_fewest 4 = .ok (.getfield 136, 3) := by decide +kernel
theorem dX6_fewest_7 : decode cX6_fewest 7 = .ok (.ifCond .ne 6, 3) := by decide +kernel
theorem dX6_fewest_10 : decode cX6_fewest 10 = .ok (.bipush (-4), 2) := by decide +kernel
theorem dX6_fewest_12 : decode cX6_fewest 12 = .ok (.ireturn, 1) := by decide +kernel
theorem dX6_fewest_13 : decode cX6_fewest 13 = .ok (.aload_n 0, 1) := by decide +kernel
theorem dX6_fewest_14 : decode cX6_fewest 14 = .ok (.aload_n 0, 1) := by decide +kernel
theorem dX6_fewest_15 : decode cX6_fewest 15 = .ok (.getfield 21, 3) := by decide +kernel
theorem dX6_fewest_18 : decode cX6_fewest 18 = .ok (.invokevirtual 241, 3) := by decide +kernel
theorem dX6_fewest_21 : decode cX6_fewest 21 = .ok (.putfield 201, 3) := by decide +kernel
theorem dX6_fewest_24 : decode cX6_fewest 24 = .ok (.aload_n 0, 1) := by decide +kernel
theorem dX6_fewest_25 : decode cX6_fewest 25 = .ok (.getfield 201, 3) := by decide +kernel
theorem dX6_fewest_28 : decode cX6_fewest 28 = .ok (.invokestatic 244, 3) := by decide +kernel
theorem dX6_fewest_31 : decode cX6_fewest 31 = .ok (.ireturn, 1) := by decide +kernel
theorem dX6_turns_0 : decode cX6_turns 0 = .ok (.aload_n 0, 1) := by decide +kernel
theorem dX6_turns_1 : decode cX6_turns 1 = .ok (.getfield 21, 3) := by decide +kernel
theorem dX6_turns_4 : decode cX6_turns 4 = .ok (.getfield 136, 3) := by decide +kernel
theorem dX6_turns_7 : decode cX6_turns 7 = .ok (.ifCond .ne 6, 3) := by decide +kernel
theorem dX6_turns_10 : decode cX6_turns 10 = .ok (.bipush (-4), 2) := by decide +kernel
theorem dX6_turns_12 : decode cX6_turns 12 = .ok (.ireturn, 1) := by decide +kernel
theorem dX6_turns_13 : decode cX6_turns 13 = .ok (.aload_n 0, 1) := by decide +kernel
theorem dX6_turns_14 : decode cX6_turns 14 = .ok (.getfield 21, 3) := by decide +kernel
theorem dX6_turns_17 : decode cX6_turns 17 = .ok (.invokevirtual 249, 3) := by decide +kernel
theorem dX6_turns_20 : decode cX6_turns 20 = .ok (.istore_n 1, 1) := by decide +kernel
theorem dX6_turns_21 : decode cX6_turns 21 = .ok (.aload_n 0, 1) := by decide +kernel
theorem dX6_turns_22 : decode cX6_turns 22 = .ok (.aload_n 0, 1) := by decide +kernel
theorem dX6_turns_23 : decode cX6_turns 23 = .ok (.getfield 21, 3) := by decide +kernel
theorem dX6_turns_26 : decode cX6_turns 26 = .ok (.aload_n 0, 1) := by decide +kernel
theorem dX6_turns_27 : decode cX6_turns 27 = .ok (.getfield 21, 3) := by decide +kernel
theorem dX6_turns_30 : decode cX6_turns 30 = .ok (.invokevirtual 198, 3) := by decide +kernel
theorem dX6_turns_33 : decode cX6_turns 33 = .ok (.iload_n 1, 1) := by decide +kernel
theorem dX6_turns_34 : decode cX6_turns 34 = .ok (.iadd, 1) := by decide +kernel
theorem dX6_turns_35 : decode cX6_turns 35 = .ok (.invokevirtual 207, 3) := by decide +kernel
theorem dX6_turns_38 : decode cX6_turns 38 = .ok (.invokestatic 244, 3) := by decide +kernel
theorem dX6_turns_41 : decode cX6_turns 41 = .ok (.putfield 201, 3) := by decide +kernel
theorem dX6_turns_44 : decode cX6_turns 44 = .ok (.iload_n 1, 1) := by decide +kernel
theorem dX6_turns_45 : decode cX6_turns 45 = .ok (.invokestatic 252, 3) := by decide +kernel
theorem dX6_turns_48 : decode cX6_turns 48 = .ok (.ireturn, 1) := by decide +kernel
theorem dX6_fits_0 : decode cX6_fits 0 = .ok (.aload_n 0, 1) := by decide +kernel
theorem dX6_fits_1 : decode cX6_fits 1 = .ok (.iload_n 1, 1) := by decide +kernel
theorem dX6_fits_2 : decode cX6_fits 2 = .ok (.invokevirtual 257, 3) := by decide +kernel
theorem dX6_fits_5 : decode cX6_fits 5 = .ok (.ifCond .eq 21, 3) := by decide +kernel
theorem dX6_fits_8 : decode cX6_fits 8 = .ok (.iload_n 2, 1) := by decide +kernel
theorem dX6_fits_9 : decode cX6_fits 9 = .ok (.bipush 20, 2) := by decide +kernel
theorem dX6_fits_11 : decode cX6_fits 11 = .ok (.invokestatic 179, 3) := by decide +kernel
theorem dX6_fits_14 : decode cX6_fits 14 = .ok (.ifCond .eq 12, 3) := by decide +kernel
theorem dX6_fits_17 : decode cX6_fits 17 = .ok (.iload_n 3, 1) := by decide +kernel
theorem dX6_fits_18 : decode cX6_fits 18 = .ok (.bipush 6, 2) := by decide +kernel
theorem dX6_fits_20 : decode cX6_fits 20 = .ok (.invokestatic 64, 3) := by decide +kernel
theorem dX6_fits_23 : decode cX6_fits 23 = .ok (.ifCond .ne 5, 3) := by decide +kernel
theorem dX6_fits_26 : decode cX6_fits 26 = .ok (.iconst (-1), 1) := by decide +kernel
theorem dX6_fits_27 : decode cX6_fits 27 = .ok (.ireturn, 1) := by decide +kernel
theorem dX6_fits_28 : decode cX6_fits 28 = .ok (.aload_n 0, 1) := by decide +kernel
theorem dX6_fits_29 : decode cX6_fits 29 = .ok (.iload_n 1, 1) := by decide +kernel
theorem dX6_fits_30 : decode cX6_fits 30 = .ok (.aload_n 0, 1) := by decide +kernel
theorem dX6_fits_31 : decode cX6_fits 31 = .ok (.getfield 11, 3) := by decide +kernel
theorem dX6_fits_34 : decode cX6_fits 34 = .ok (.iload_n 3, 1) := by decide +kernel
theorem dX6_fits_35 : decode cX6_fits 35 = .ok (.aaload, 1) := by decide +kernel
theorem dX6_fits_36 : decode cX6_fits 36 = .ok (.invokevirtual 260, 3) := by decide +kernel
theorem dX6_fits_39 : decode cX6_fits 39 = .ok (.istore 4, 2) := by decide +kernel
theorem dX6_fits_41 : decode cX6_fits 41 = .ok (.iload 4, 2) := by decide +kernel
theorem dX6_fits_43 : decode cX6_fits 43 = .ok (.ifCond .eq 6, 3) := by decide +kernel
theorem dX6_fits_46 : decode cX6_fits 46 = .ok (.iload 4, 2) := by decide +kernel
theorem dX6_fits_48 : decode cX6_fits 48 = .ok (.ireturn, 1) := by decide +kernel
theorem dX6_fits_49 : decode cX6_fits 49 = .ok (.aload_n 0, 1) := by decide +kernel
theorem dX6_fits_50 : decode cX6_fits 50 = .ok (.getfield 53, 3) := by decide +kernel
theorem dX6_fits_53 : decode cX6_fits 53 = .ok (.aload_n 0, 1) := by decide +kernel
theorem dX6_fits_54 : decode cX6_fits 54 = .ok (.getfield 21, 3) := by decide +kernel
theorem dX6_fits_57 : decode cX6_fits 57 = .ok (.iload_n 1, 1) := by decide +kernel
theorem dX6_fits_58 : decode cX6_fits 58 = .ok (.iload_n 2, 1) := by decide +kernel
theorem dX6_fits_59 : decode cX6_fits 59 = .ok (.aload_n 0, 1) := by decide +kernel
theorem dX6_fits_60 : decode cX6_fits 60 = .ok (.getfield 11, 3) := by decide +kernel
theorem dX6_fits_63 : decode cX6_fits 63 = .ok (.iload_n 3, 1) := by decide +kernel
theorem dX6_fits_64 : decode cX6_fits 64 = .ok (.aaload, 1) := by decide +kernel
theorem dX6_fits_65 : decode cX6_fits 65 = .ok (.invokevirtual 264, 3) := by decide +kernel
theorem dX6_fits_68 : decode cX6_fits 68 = .ok (.aload_n 0, 1) := by decide +kernel
theorem dX6_fits_69 : decode cX6_fits 69 = .ok (.aload_n 0, 1) := by decide +kernel
theorem dX6_fits_70 : decode cX6_fits 70 = .ok (.getfield 53, 3) := by decide +kernel
theorem dX6_fits_73 : decode cX6_fits 73 = .ok (.getfield 268, 3) := by decide +kernel
theorem dX6_fits_76 : decode cX6_fits 76 = .ok (.putfield 201, 3) := by decide +kernel
theorem dX6_fits_79 : decode cX6_fits 79 = .ok (.aload_n 0, 1) := by decide +kernel
theorem dX6_fits_80 : decode cX6_fits 80 = .ok (.getfield 53, 3) := by decide +kernel
theorem dX6_fits_83 : decode cX6_fits 83 = .ok (.getfield 270, 3) := by decide +kernel
theorem dX6_fits_86 : decode cX6_fits 86 = .ok (.ireturn, 1) := by decide +kernel
theorem dX6_could_0 : decode cX6_could 0 = .ok (.aload_n 0, 1) := by decide +kernel
theorem dX6_could_1 : decode cX6_could 1 = .ok (.iload_n 1, 1) := by decide +kernel
theorem dX6_could_2 : decode cX6_could 2 = .ok (.invokevirtual 257, 3) := by decide +kernel
theorem dX6_could_5 : decode cX6_could 5 = .ok (.ifCond .eq 21, 3) := by decide +kernel
theorem dX6_could_8 : decode cX6_could 8 = .ok (.iload_n 2, 1) := by decide +kernel
theorem dX6_could_9 : decode cX6_could 9 = .ok (.bipush 20, 2) := by decide +kernel
theorem dX6_could_11 : decode cX6_could 11 = .ok (.invokestatic 179, 3) := by decide +kernel
theorem dX6_could_14 : decode cX6_could 14 = .ok (.ifCond .eq 12, 3) := by decide +kernel
theorem dX6_could_17 : decode cX6_could 17 = .ok (.iload_n 3, 1) := by decide +kernel
theorem dX6_could_18 : decode cX6_could 18 = .ok (.bipush 6, 2) := by decide +kernel
theorem dX6_could_20 : decode cX6_could 20 = .ok (.invokestatic 64, 3) := by decide +kernel
theorem dX6_could_23 : decode cX6_could 23 = .ok (.ifCond .ne 5, 3) := by decide +kernel
theorem dX6_could_26 : decode cX6_could 26 = .ok (.iconst (-1), 1) := by decide +kernel
theorem dX6_could_27 : decode cX6_could 27 = .ok (.ireturn, 1) := by decide +kernel
theorem dX6_could_28 : decode cX6_could 28 = .ok (.iload 4, 2) := by decide +kernel
theorem dX6_could_30 : decode cX6_could 30 = .ok (.bipush 6, 2) := by decide +kernel
theorem dX6_could_32 : decode cX6_could 32 = .ok (.invokestatic 64, 3) := by decide +kernel
theorem dX6_could_35 : decode cX6_could 35 = .ok (.ifCond .eq 12, 3) := by decide +kernel
theorem dX6_could_38 : decode cX6_could 38 = .ok (.iload_n 1, 1) := by decide +kernel
theorem dX6_could_39 : decode cX6_could 39 = .ok (.iload 4, 2) := by decide +kernel
theorem dX6_could_41 : decode cX6_could 41 = .ok (.invokestatic 273, 3) := by decide +kernel
theorem dX6_could_44 : decode cX6_could 44 = .ok (.ifCond .ne 5, 3) := by decide +kernel
theorem dX6_could_47 : decode cX6_could 47 = .ok (.iconst (-1), 1) := by decide +kernel
theorem dX6_could_48 : decode cX6_could 48 = .ok (.ireturn, 1) := by decide +kernel
theorem dX6_could_49 : decode cX6_could 49 = .ok (.aload_n 0, 1) := by decide +kernel
theorem dX6_could_50 : decode cX6_could 50 = .ok (.iload_n 1, 1) := by decide +kernel
theorem dX6_could_51 : decode cX6_could 51 = .ok (.aload_n 0, 1) := by decide +kernel
theorem dX6_could_52 : decode cX6_could 52 = .ok (.getfield 11, 3) := by decide +kernel
theorem dX6_could_55 : decode cX6_could 55 = .ok (.iload_n 3, 1) := by decide +kernel
theorem dX6_could_56 : decode cX6_could 56 = .ok (.aaload, 1) := by decide +kernel
theorem dX6_could_57 : decode cX6_could 57 = .ok (.invokevirtual 260, 3) := by decide +kernel
theorem dX6_could_60 : decode cX6_could 60 = .ok (.istore 5, 2) := by decide +kernel
theorem dX6_could_62 : decode cX6_could 62 = .ok (.iload 5, 2) := by decide +kernel
theorem dX6_could_64 : decode cX6_could 64 = .ok (.ifCond .eq 6, 3) := by decide +kernel
theorem dX6_could_67 : decode cX6_could 67 = .ok (.iload 5, 2) := by decide +kernel
theorem dX6_could_69 : decode cX6_could 69 = .ok (.ireturn, 1) := by decide +kernel
theorem dX6_could_70 : decode cX6_could 70 = .ok (.aload_n 0, 1) := by decide +kernel
theorem dX6_could_71 : decode cX6_could 71 = .ok (.getfield 53, 3) := by decide +kernel
theorem dX6_could_74 : decode cX6_could 74 = .ok (.aload_n 0, 1) := by decide +kernel
theorem dX6_could_75 : decode cX6_could 75 = .ok (.getfield 21, 3) := by decide +kernel
theorem dX6_could_78 : decode cX6_could 78 = .ok (.iload_n 1, 1) := by decide +kernel
theorem dX6_could_79 : decode cX6_could 79 = .ok (.iload_n 2, 1) := by decide +kernel
theorem dX6_could_80 : decode cX6_could 80 = .ok (.aload_n 0, 1) := by decide +kernel
theorem dX6_could_81 : decode cX6_could 81 = .ok (.getfield 11, 3) := by decide +kernel
theorem dX6_could_84 : decode cX6_could 84 = .ok (.iload_n 3, 1) := by decide +kernel
theorem dX6_could_85 : decode cX6_could 85 = .ok (.aaload, 1) := by decide +kernel
theorem dX6_could_86 : decode cX6_could 86 = .ok (.invokevirtual 264, 3) := by decide +kernel
theorem dX6_could_89 : decode cX6_could 89 = .ok (.aload_n 0, 1) := by decide +kernel
theorem dX6_could_90 : decode cX6_could 90 = .ok (.getfield 53, 3) := by decide +kernel
theorem dX6_could_93 : decode cX6_could 93 = .ok (.getfield 276, 3) := by decide +kernel
theorem dX6_could_96 : decode cX6_could 96 = .ok (.iload 4, 2) := by decide +kernel
theorem dX6_could_98 : decode cX6_could 98 = .ok (.iaload, 1) := by decide +kernel
theorem dX6_could_99 : decode cX6_could 99 = .ok (.ireturn, 1) := by decide +kernel
theorem dX6_winds_0 : decode cX6_winds 0 = .ok (.iload_n 1, 1) := by decide +kernel
theorem dX6_winds_1 : decode cX6_winds 1 = .ok (.iconst 1, 1) := by decide +kernel
theorem dX6_winds_2 : decode cX6_winds 2 = .ok (.if_icmp .lt 23, 3) := by decide +kernel
theorem dX6_winds_5 : decode cX6_winds 5 = .ok (.iload_n 1, 1) := by decide +kernel
theorem dX6_winds_6 : decode cX6_winds 6 = .ok (.bipush 60, 2) := by decide +kernel
theorem dX6_winds_8 : decode cX6_winds 8 = .ok (.if_icmp .gt 17, 3) := by decide +kernel
theorem dX6_winds_11 : decode cX6_winds 11 = .ok (.iload_n 2, 1) := by decide +kernel
theorem dX6_winds_12 : decode cX6_winds 12 = .ok (.iconst 1, 1) := by decide +kernel
theorem dX6_winds_13 : decode cX6_winds 13 = .ok (.if_icmp .lt 12, 3) := by decide +kernel
theorem dX6_winds_16 : decode cX6_winds 16 = .ok (.iload_n 2, 1) := by decide +kernel
theorem dX6_winds_17 : decode cX6_winds 17 = .ok (.i2l, 1) := by decide +kernel
theorem dX6_winds_18 : decode cX6_winds 18 = .ok (.ldc2_w 279, 3) := by decide +kernel
theorem dX6_winds_21 : decode cX6_winds 21 = .ok (.lcmp, 1) := by decide +kernel
theorem dX6_winds_22 : decode cX6_winds 22 = .ok (.ifCond .lt 5, 3) := by decide +kernel
theorem dX6_winds_25 : decode cX6_winds 25 = .ok (.iconst (-1), 1) := by decide +kernel
theorem dX6_winds_26 : decode cX6_winds 26 = .ok (.ireturn, 1) := by decide +kernel
end
section
theorem dX6_winds_27 : decode cX6_winds 27 = .ok (.aload_n 0, 1) := by decide +kernel
theorem dX6_winds_28 : decode cX6_winds 28 = .ok (.getfield 21, 3) := by decide +kernel
theorem dX6_winds_31 : decode cX6_winds 31 = .ok (.getfield 136, 3) := by decide +kernel
theorem dX6_winds_34 : decode cX6_winds 34 = .ok (.ifCond .ne 6, 3) := by decide +kernel
theorem dX6_winds_37 : decode cX6_winds 37 = .ok (.bipush (-4), 2) := by decide +kernel
theorem dX6_winds_39 : decode cX6_winds 39 = .ok (.ireturn, 1) := by decide +kernel
theorem dX6_winds_40 : decode cX6_winds 40 = .ok (.aload_n 0, 1) := by decide +kernel
theorem dX6_winds_41 : decode cX6_winds 41 = .ok (.getfield 46, 3) := by decide +kernel
theorem dX6_winds_44 : decode cX6_winds 44 = .ok (.aload_n 0, 1) := by decide +kernel
theorem dX6_winds_45 : decode cX6_winds 45 = .ok (.getfield 21, 3) := by decide +kernel
theorem dX6_winds_48 : decode cX6_winds 48 = .ok (.iload_n 1, 1) := by decide +kernel
theorem dX6_winds_49 : decode cX6_winds 49 = .ok (.iload_n 2, 1) := by decide +kernel
theorem dX6_winds_50 : decode cX6_winds 50 = .ok (.invokevirtual 281, 3) := by decide +kernel
theorem dX6_winds_53 : decode cX6_winds 53 = .ok (.istore_n 3, 1) := by decide +kernel
theorem dX6_winds_54 : decode cX6_winds 54 = .ok (.aload_n 0, 1) := by decide +kernel
theorem dX6_winds_55 : decode cX6_winds 55 = .ok (.aload_n 0, 1) := by decide +kernel
theorem dX6_winds_56 : decode cX6_winds 56 = .ok (.getfield 46, 3) := by decide +kernel
theorem dX6_winds_59 : decode cX6_winds 59 = .ok (.getfield 217, 3) := by decide +kernel
theorem dX6_winds_62 : decode cX6_winds 62 = .ok (.putfield 201, 3) := by decide +kernel
theorem dX6_winds_65 : decode cX6_winds 65 = .ok (.iload_n 3, 1) := by decide +kernel
theorem dX6_winds_66 : decode cX6_winds 66 = .ok (.ireturn, 1) := by decide +kernel
theorem dX6_asked_0 : decode cX6_asked 0 = .ok (.aload_n 0, 1) := by decide +kernel
theorem dX6_asked_1 : decode cX6_asked 1 = .ok (.getfield 201, 3) := by decide +kernel
theorem dX6_asked_4 : decode cX6_asked 4 = .ok (.ireturn, 1) := by decide +kernel
theorem dX6_upper_0 : decode cX6_upper 0 = .ok (.aload_n 0, 1) := by decide +kernel
theorem dX6_upper_1 : decode cX6_upper 1 = .ok (.getfield 21, 3) := by decide +kernel
theorem dX6_upper_4 : decode cX6_upper 4 = .ok (.invokevirtual 284, 3) := by decide +kernel
theorem dX6_upper_7 : decode cX6_upper 7 = .ok (.i2l, 1) := by decide +kernel
theorem dX6_upper_8 : decode cX6_upper 8 = .ok (.lstore_n 1, 1) := by decide +kernel
theorem dX6_upper_9 : decode cX6_upper 9 = .ok (.aload_n 0, 1) := by decide +kernel
theorem dX6_upper_10 : decode cX6_upper 10 = .ok (.getfield 21, 3) := by decide +kernel
theorem dX6_upper_13 : decode cX6_upper 13 = .ok (.invokevirtual 287, 3) := by decide +kernel
theorem dX6_upper_16 : decode cX6_upper 16 = .ok (.i2l, 1) := by decide +kernel
theorem dX6_upper_17 : decode cX6_upper 17 = .ok (.lstore_n 3, 1) := by decide +kernel
theorem dX6_upper_18 : decode cX6_upper 18 = .ok (.lload_n 3, 1) := by decide +kernel
theorem dX6_upper_19 : decode cX6_upper 19 = .ok (.lconst 0, 1) := by decide +kernel
theorem dX6_upper_20 : decode cX6_upper 20 = .ok (.lcmp, 1) := by decide +kernel
theorem dX6_upper_21 : decode cX6_upper 21 = .ok (.ifCond .ne 7, 3) := by decide +kernel
theorem dX6_upper_24 : decode cX6_upper 24 = .ok (.lconst 0, 1) := by decide +kernel
theorem dX6_upper_25 : decode cX6_upper 25 = .ok (.goto 10, 3) := by decide +kernel
theorem dX6_upper_28 : decode cX6_upper 28 = .ok (.lload_n 1, 1) := by decide +kernel
theorem dX6_upper_29 : decode cX6_upper 29 = .ok (.lload_n 3, 1) := by decide +kernel
theorem dX6_upper_30 : decode cX6_upper 30 = .ok (.lload_n 1, 1) := by decide +kernel
theorem dX6_upper_31 : decode cX6_upper 31 = .ok (.invokestatic 290, 3) := by decide +kernel
theorem dX6_upper_34 : decode cX6_upper 34 = .ok (.ldiv, 1) := by decide +kernel
theorem dX6_upper_35 : decode cX6_upper 35 = .ok (.lreturn, 1) := by decide +kernel
theorem dX6_lower_0 : decode cX6_lower 0 = .ok (.aload_n 0, 1) := by decide +kernel
theorem dX6_lower_1 : decode cX6_lower 1 = .ok (.getfield 21, 3) := by decide +kernel
theorem dX6_lower_4 : decode cX6_lower 4 = .ok (.invokevirtual 284, 3) := by decide +kernel
theorem dX6_lower_7 : decode cX6_lower 7 = .ok (.i2l, 1) := by decide +kernel
theorem dX6_lower_8 : decode cX6_lower 8 = .ok (.lstore_n 1, 1) := by decide +kernel
theorem dX6_lower_9 : decode cX6_lower 9 = .ok (.aload_n 0, 1) := by decide +kernel
theorem dX6_lower_10 : decode cX6_lower 10 = .ok (.getfield 21, 3) := by decide +kernel
theorem dX6_lower_13 : decode cX6_lower 13 = .ok (.invokevirtual 287, 3) := by decide +kernel
theorem dX6_lower_16 : decode cX6_lower 16 = .ok (.i2l, 1) := by decide +kernel
theorem dX6_lower_17 : decode cX6_lower 17 = .ok (.lstore_n 3, 1) := by decide +kernel
theorem dX6_lower_18 : decode cX6_lower 18 = .ok (.lload_n 3, 1) := by decide +kernel
theorem dX6_lower_19 : decode cX6_lower 19 = .ok (.lconst 0, 1) := by decide +kernel
theorem dX6_lower_20 : decode cX6_lower 20 = .ok (.lcmp, 1) := by decide +kernel
theorem dX6_lower_21 : decode cX6_lower 21 = .ok (.ifCond .ne 7, 3) := by decide +kernel
theorem dX6_lower_24 : decode cX6_lower 24 = .ok (.lconst 1, 1) := by decide +kernel
theorem dX6_lower_25 : decode cX6_lower 25 = .ok (.goto 10, 3) := by decide +kernel
theorem dX6_lower_28 : decode cX6_lower 28 = .ok (.lload_n 3, 1) := by decide +kernel
theorem dX6_lower_29 : decode cX6_lower 29 = .ok (.lload_n 3, 1) := by decide +kernel
theorem dX6_lower_30 : decode cX6_lower 30 = .ok (.lload_n 1, 1) := by decide +kernel
theorem dX6_lower_31 : decode cX6_lower 31 = .ok (.invokestatic 290, 3) := by decide +kernel
theorem dX6_lower_34 : decode cX6_lower 34 = .ok (.ldiv, 1) := by decide +kernel
theorem dX6_lower_35 : decode cX6_lower 35 = .ok (.lreturn, 1) := by decide +kernel
theorem dX6_count_0 : decode cX6_count 0 = .ok (.iload_n 1, 1) := by decide +kernel
theorem dX6_count_1 : decode cX6_count 1 = .ok (.bipush 9, 2) := by decide +kernel
theorem dX6_count_3 : decode cX6_count 3 = .ok (.invokestatic 64, 3) := by decide +kernel
theorem dX6_count_6 : decode cX6_count 6 = .ok (.ifCond .eq 11, 3) := by decide +kernel
theorem dX6_count_9 : decode cX6_count 9 = .ok (.aload_n 0, 1) := by decide +kernel
theorem dX6_count_10 : decode cX6_count 10 = .ok (.iload_n 1, 1) := by decide +kernel
theorem dX6_count_11 : decode cX6_count 11 = .ok (.invokevirtual 294, 3) := by decide +kernel
theorem dX6_count_14 : decode cX6_count 14 = .ok (.goto 4, 3) := by decide +kernel
theorem dX6_count_17 : decode cX6_count 17 = .ok (.iconst (-1), 1) := by decide +kernel
theorem dX6_count_18 : decode cX6_count 18 = .ok (.ireturn, 1) := by decide +kernel
theorem dX6_finding_0 : decode cX6_finding 0 = .ok (.aload_n 0, 1) := by decide +kernel
theorem dX6_finding_1 : decode cX6_finding 1 = .ok (.getfield 297, 3) := by decide +kernel
theorem dX6_finding_4 : decode cX6_finding 4 = .ok (.ireturn, 1) := by decide +kernel
theorem dX6_findings_0 : decode cX6_findings 0 = .ok (.iload_n 1, 1) := by decide +kernel
theorem dX6_findings_1 : decode cX6_findings 1 = .ok (.iconst 1, 1) := by decide +kernel
theorem dX6_findings_2 : decode cX6_findings 2 = .ok (.if_icmp .lt 8, 3) := by decide +kernel
theorem dX6_findings_5 : decode cX6_findings 5 = .ok (.iload_n 1, 1) := by decide +kernel
theorem dX6_findings_6 : decode cX6_findings 6 = .ok (.iconst 5, 1) := by decide +kernel
theorem dX6_findings_7 : decode cX6_findings 7 = .ok (.if_icmp .le 7, 3) := by decide +kernel
theorem dX6_findings_10 : decode cX6_findings 10 = .ok (.iconst (-1), 1) := by decide +kernel
theorem dX6_findings_11 : decode cX6_findings 11 = .ok (.goto 9, 3) := by decide +kernel
theorem dX6_findings_14 : decode cX6_findings 14 = .ok (.aload_n 0, 1) := by decide +kernel
theorem dX6_findings_15 : decode cX6_findings 15 = .ok (.getfield 57, 3) := by decide +kernel
theorem dX6_findings_18 : decode cX6_findings 18 = .ok (.iload_n 1, 1) := by decide +kernel
theorem dX6_findings_19 : decode cX6_findings 19 = .ok (.iaload, 1) := by decide +kernel
theorem dX6_findings_20 : decode cX6_findings 20 = .ok (.ireturn, 1) := by decide +kernel
theorem dX6_digest_0 : decode cX6_digest 0 = .ok (.ldc2_w 300, 3) := by decide +kernel
theorem dX6_digest_3 : decode cX6_digest 3 = .ok (.lstore_n 1, 1) := by decide +kernel
theorem dX6_digest_4 : decode cX6_digest 4 = .ok (.iconst 0, 1) := by decide +kernel
theorem dX6_digest_5 : decode cX6_digest 5 = .ok (.istore_n 3, 1) := by decide +kernel
theorem dX6_digest_6 : decode cX6_digest 6 = .ok (.iload_n 3, 1) := by decide +kernel
theorem dX6_digest_7 : decode cX6_digest 7 = .ok (.bipush 9, 2) := by decide +kernel
theorem dX6_digest_9 : decode cX6_digest 9 = .ok (.if_icmp .ge 22, 3) := by decide +kernel
theorem dX6_digest_12 : decode cX6_digest 12 = .ok (.ldc2_w 302, 3) := by decide +kernel
theorem dX6_digest_15 : decode cX6_digest 15 = .ok (.lload_n 1, 1) := by decide +kernel
theorem dX6_digest_16 : decode cX6_digest 16 = .ok (.lmul, 1) := by decide +kernel
theorem dX6_digest_17 : decode cX6_digest 17 = .ok (.aload_n 0, 1) := by decide +kernel
theorem dX6_digest_18 : decode cX6_digest 18 = .ok (.iload_n 3, 1) := by decide +kernel
theorem dX6_digest_19 : decode cX6_digest 19 = .ok (.invokevirtual 294, 3) := by decide +kernel
theorem dX6_digest_22 : decode cX6_digest 22 = .ok (.i2l, 1) := by decide +kernel
theorem dX6_digest_23 : decode cX6_digest 23 = .ok (.ladd, 1) := by decide +kernel
theorem dX6_digest_24 : decode cX6_digest 24 = .ok (.lstore_n 1, 1) := by decide +kernel
theorem dX6_digest_25 : decode cX6_digest 25 = .ok (.iinc 3 1, 3) := by decide +kernel
theorem dX6_digest_28 : decode cX6_digest 28 = .ok (.goto (-22), 3) := by decide +kernel
theorem dX6_digest_31 : decode cX6_digest 31 = .ok (.ldc2_w 302, 3) := by decide +kernel
theorem dX6_digest_34 : decode cX6_digest 34 = .ok (.lload_n 1, 1) := by decide +kernel
theorem dX6_digest_35 : decode cX6_digest 35 = .ok (.lmul, 1) := by decide +kernel
theorem dX6_digest_36 : decode cX6_digest 36 = .ok (.aload_n 0, 1) := by decide +kernel
theorem dX6_digest_37 : decode cX6_digest 37 = .ok (.getfield 21, 3) := by decide +kernel
theorem dX6_digest_40 : decode cX6_digest 40 = .ok (.getfield 136, 3) := by decide +kernel
theorem dX6_digest_43 : decode cX6_digest 43 = .ok (.ifCond .ne 7, 3) := by decide +kernel
theorem dX6_digest_46 : decode cX6_digest 46 = .ok (.iconst 0, 1) := by decide +kernel
theorem dX6_digest_47 : decode cX6_digest 47 = .ok (.goto 10, 3) := by decide +kernel
theorem dX6_digest_50 : decode cX6_digest 50 = .ok (.aload_n 0, 1) := by decide +kernel
theorem dX6_digest_51 : decode cX6_digest 51 = .ok (.getfield 21, 3) := by decide +kernel
theorem dX6_digest_54 : decode cX6_digest 54 = .ok (.getfield 304, 3) := by decide +kernel
theorem dX6_digest_57 : decode cX6_digest 57 = .ok (.i2l, 1) := by decide +kernel
theorem dX6_digest_58 : decode cX6_digest 58 = .ok (.ladd, 1) := by decide +kernel
theorem dX6_digest_59 : decode cX6_digest 59 = .ok (.lstore_n 1, 1) := by decide +kernel
theorem dX6_digest_60 : decode cX6_digest 60 = .ok (.aload_n 0, 1) := by decide +kernel
theorem dX6_digest_61 : decode cX6_digest 61 = .ok (.getfield 21, 3) := by decide +kernel
theorem dX6_digest_64 : decode cX6_digest 64 = .ok (.lload_n 1, 1) := by decide +kernel
theorem dX6_digest_65 : decode cX6_digest 65 = .ok (.invokevirtual 307, 3) := by decide +kernel
theorem dX6_digest_68 : decode cX6_digest 68 = .ok (.lstore_n 1, 1) := by decide +kernel
theorem dX6_digest_69 : decode cX6_digest 69 = .ok (.ldc2_w 302, 3) := by decide +kernel
theorem dX6_digest_72 : decode cX6_digest 72 = .ok (.lload_n 1, 1) := by decide +kernel
theorem dX6_digest_73 : decode cX6_digest 73 = .ok (.lmul, 1) := by decide +kernel
theorem dX6_digest_74 : decode cX6_digest 74 = .ok (.aload_n 0, 1) := by decide +kernel
theorem dX6_digest_75 : decode cX6_digest 75 = .ok (.getfield 21, 3) := by decide +kernel
theorem dX6_digest_78 : decode cX6_digest 78 = .ok (.getfield 126, 3) := by decide +kernel
theorem dX6_digest_81 : decode cX6_digest 81 = .ok (.aload_n 0, 1) := by decide +kernel
theorem dX6_digest_82 : decode cX6_digest 82 = .ok (.getfield 32, 3) := by decide +kernel
theorem dX6_digest_85 : decode cX6_digest 85 = .ok (.invokevirtual 188, 3) := by decide +kernel
theorem dX6_digest_88 : decode cX6_digest 88 = .ok (.isub, 1) := by decide +kernel
theorem dX6_digest_89 : decode cX6_digest 89 = .ok (.i2l, 1) := by decide +kernel
theorem dX6_digest_90 : decode cX6_digest 90 = .ok (.ladd, 1) := by decide +kernel
theorem dX6_digest_91 : decode cX6_digest 91 = .ok (.lstore_n 1, 1) := by decide +kernel
theorem dX6_digest_92 : decode cX6_digest 92 = .ok (.iconst 0, 1) := by decide +kernel
theorem dX6_digest_93 : decode cX6_digest 93 = .ok (.istore_n 3, 1) := by decide +kernel
theorem dX6_digest_94 : decode cX6_digest 94 = .ok (.iload_n 3, 1) := by decide +kernel
theorem dX6_digest_95 : decode cX6_digest 95 = .ok (.iconst 3, 1) := by decide +kernel
theorem dX6_digest_96 : decode cX6_digest 96 = .ok (.if_icmp .ge 38, 3) := by decide +kernel
theorem dX6_digest_99 : decode cX6_digest 99 = .ok (.ldc2_w 302, 3) := by decide +kernel
theorem dX6_digest_102 : decode cX6_digest 102 = .ok (.lload_n 1, 1) := by decide +kernel
theorem dX6_digest_103 : decode cX6_digest 103 = .ok (.lmul, 1) := by decide +kernel
theorem dX6_digest_104 : decode cX6_digest 104 = .ok (.aload_n 0, 1) := by decide +kernel
theorem dX6_digest_105 : decode cX6_digest 105 = .ok (.iload_n 3, 1) := by decide +kernel
theorem dX6_digest_106 : decode cX6_digest 106 = .ok (.invokevirtual 210, 3) := by decide +kernel
theorem dX6_digest_109 : decode cX6_digest 109 = .ok (.ifCond .eq 15, 3) := by decide +kernel
theorem dX6_digest_112 : decode cX6_digest 112 = .ok (.aload_n 0, 1) := by decide +kernel
theorem dX6_digest_113 : decode cX6_digest 113 = .ok (.getfield 25, 3) := by decide +kernel
theorem dX6_digest_116 : decode cX6_digest 116 = .ok (.iload_n 3, 1) := by decide +kernel
theorem dX6_digest_117 : decode cX6_digest 117 = .ok (.aaload, 1) := by decide +kernel
theorem dX6_digest_118 : decode cX6_digest 118 = .ok (.getfield 126, 3) := by decide +kernel
theorem dX6_digest_121 : decode cX6_digest 121 = .ok (.goto 4, 3) := by decide +kernel
theorem dX6_digest_124 : decode cX6_digest 124 = .ok (.iconst (-1), 1) := by decide +kernel
theorem dX6_digest_125 : decode cX6_digest 125 = .ok (.i2l, 1) := by decide +kernel
theorem dX6_digest_126 : decode cX6_digest 126 = .ok (.ladd, 1) := by decide +kernel
theorem dX6_digest_127 : decode cX6_digest 127 = .ok (.lstore_n 1, 1) := by decide +kernel
theorem dX6_digest_128 : decode cX6_digest 128 = .ok (.iinc 3 1, 3) := by decide +kernel
theorem dX6_digest_131 : decode cX6_digest 131 = .ok (.goto (-37), 3) := by decide +kernel
theorem dX6_digest_134 : decode cX6_digest 134 = .ok (.iconst 0, 1) := by decide +kernel
theorem dX6_digest_135 : decode cX6_digest 135 = .ok (.istore_n 3, 1) := by decide +kernel
theorem dX6_digest_136 : decode cX6_digest 136 = .ok (.iload_n 3, 1) := by decide +kernel
theorem dX6_digest_137 : decode cX6_digest 137 = .ok (.bipush 6, 2) := by decide +kernel
theorem dX6_digest_139 : decode cX6_digest 139 = .ok (.if_icmp .ge 20, 3) := by decide +kernel
theorem dX6_digest_142 : decode cX6_digest 142 = .ok (.aload_n 0, 1) := by decide +kernel
theorem dX6_digest_143 : decode cX6_digest 143 = .ok (.getfield 11, 3) := by decide +kernel
theorem dX6_digest_146 : decode cX6_digest 146 = .ok (.iload_n 3, 1) := by decide +kernel
theorem dX6_digest_147 : decode cX6_digest 147 = .ok (.aaload, 1) := by decide +kernel
theorem dX6_digest_148 : decode cX6_digest 148 = .ok (.lload_n 1, 1) := by decide +kernel
theorem dX6_digest_149 : decode cX6_digest 149 = .ok (.invokevirtual 311, 3) := by decide +kernel
theorem dX6_digest_152 : decode cX6_digest 152 = .ok (.lstore_n 1, 1) := by decide +kernel
theorem dX6_digest_153 : decode cX6_digest 153 = .ok (.iinc 3 1, 3) := by decide +kernel
theorem dX6_digest_156 : decode cX6_digest 156 = .ok (.goto (-20), 3) := by decide +kernel
theorem dX6_digest_159 : decode cX6_digest 159 = .ok (.iconst 0, 1) := by decide +kernel
theorem dX6_digest_160 : decode cX6_digest 160 = .ok (.istore_n 3, 1) := by decide +kernel
theorem dX6_digest_161 : decode cX6_digest 161 = .ok (.iload_n 3, 1) := by decide +kernel
theorem dX6_digest_162 : decode cX6_digest 162 = .ok (.iconst 4, 1) := by decide +kernel
theorem dX6_digest_163 : decode cX6_digest 163 = .ok (.if_icmp .ge 20, 3) := by decide +kernel
theorem dX6_digest_166 : decode cX6_digest 166 = .ok (.aload_n 0, 1) := by decide +kernel
theorem dX6_digest_167 : decode cX6_digest 167 = .ok (.getfield 15, 3) := by decide +kernel
theorem dX6_digest_170 : decode cX6_digest 170 = .ok (.iload_n 3, 1) := by decide +kernel
theorem dX6_digest_171 : decode cX6_digest 171 = .ok (.aaload, 1) := by decide +kernel
theorem dX6_digest_172 : decode cX6_digest 172 = .ok (.lload_n 1, 1) := by decide +kernel
theorem dX6_digest_173 : decode cX6_digest 173 = .ok (.invokevirtual 311, 3) := by decide +kernel
theorem dX6_digest_176 : decode cX6_digest 176 = .ok (.lstore_n 1, 1) := by decide +kernel
theorem dX6_digest_177 : decode cX6_digest 177 = .ok (.iinc 3 1, 3) := by decide +kernel
theorem dX6_digest_180 : decode cX6_digest 180 = .ok (.goto (-19), 3) := by decide +kernel
theorem dX6_digest_183 : decode cX6_digest 183 = .ok (.lload_n 1, 1) := by decide +kernel
theorem dX6_digest_184 : decode cX6_digest 184 = .ok (.lreturn, 1) := by decide +kernel
theorem dX6_refuse_0 : decode cX6_refuse 0 = .ok (.aload_n 0, 1) := by decide +kernel
theorem dX6_refuse_1 : decode cX6_refuse 1 = .ok (.iload_n 1, 1) := by decide +kernel
theorem dX6_refuse_2 : decode cX6_refuse 2 = .ok (.putfield 297, 3) := by decide +kernel
theorem dX6_refuse_5 : decode cX6_refuse 5 = .ok (.aload_n 0, 1) := by decide +kernel
theorem dX6_refuse_6 : decode cX6_refuse 6 = .ok (.getfield 57, 3) := by decide +kernel
theorem dX6_refuse_9 : decode cX6_refuse 9 = .ok (.iload_n 1, 1) := by decide +kernel
theorem dX6_refuse_10 : decode cX6_refuse 10 = .ok (.dup2, 1) := by decide +kernel
theorem dX6_refuse_11 : decode cX6_refuse 11 = .ok (.iaload, 1) := by decide +kernel
theorem dX6_refuse_12 : decode cX6_refuse 12 = .ok (.iconst 1, 1) := by decide +kernel
theorem dX6_refuse_13 : decode cX6_refuse 13 = .ok (.iadd, 1) := by decide +kernel
theorem dX6_refuse_14 : decode cX6_refuse 14 = .ok (.iastore, 1) := by decide +kernel
theorem dX6_refuse_15 : decode cX6_refuse 15 = .ok (.bipush (-3), 2) := by decide +kernel
theorem dX6_refuse_17 : decode cX6_refuse 17 = .ok (.ireturn, 1) := by decide +kernel
theorem dX6_tell_0 : decode cX6_tell 0 = .ok (.aload_n 0, 1) := by decide +kernel
theorem dX6_tell_1 : decode cX6_tell 1 = .ok (.iload_n 1, 1) := by decide +kernel
theorem dX6_tell_2 : decode cX6_tell 2 = .ok (.putfield 201, 3) := by decide +kernel
theorem dX6_tell_5 : decode cX6_tell 5 = .ok (.iconst 1, 1) := by decide +kernel
theorem dX6_tell_6 : decode cX6_tell 6 = .ok (.ireturn, 1) := by decide +kernel
theorem dX6_missingPlace_0 : decode cX6_missingPlace 0 = .ok (.aload_n 1, 1) := by decide +kernel
theorem dX6_missingPlace_1 : decode cX6_missingPlace 1 = .ok (.invokevirtual 90, 3) := by decide +kernel
theorem dX6_missingPlace_4 : decode cX6_missingPlace 4 = .ok (.ifCond .ne 5, 3) := by decide +kernel
theorem dX6_missingPlace_7 : decode cX6_missingPlace 7 = .ok (.iconst 1, 1) := by decide +kernel
theorem dX6_missingPlace_8 : decode cX6_missingPlace 8 = .ok (.ireturn, 1) := by decide +kernel
theorem dX6_missingPlace_9 : decode cX6_missingPlace 9 = .ok (.aload_n 1, 1) := by decide +kernel
theorem dX6_missingPlace_10 : decode cX6_missingPlace 10 = .ok (.iload_n 2, 1) := by decide +kernel
theorem dX6_missingPlace_11 : decode cX6_missingPlace 11 = .ok (.invokevirtual 312, 3) := by decide +kernel
theorem dX6_missingPlace_14 : decode cX6_missingPlace 14 = .ok (.ifCond .eq 7, 3) := by decide +kernel
theorem dX6_missingPlace_17 : decode cX6_missingPlace 17 = .ok (.iconst 0, 1) := by decide +kernel
theorem dX6_missingPlace_18 : decode cX6_missingPlace 18 = .ok (.goto 4, 3) := by decide +kernel
theorem dX6_missingPlace_21 : decode cX6_missingPlace 21 = .ok (.iconst 2, 1) := by decide +kernel
theorem dX6_missingPlace_22 : decode cX6_missingPlace 22 = .ok (.ireturn, 1) := by decide +kernel
theorem dX6_refuseTrack_0 : decode cX6_refuseTrack 0 = .ok (.aload_n 0, 1) := by decide +kernel
theorem dX6_refuseTrack_1 : decode cX6_refuseTrack 1 = .ok (.getfield 21, 3) := by decide +kernel
theorem dX6_refuseTrack_4 : decode cX6_refuseTrack 4 = .ok (.getfield 136, 3) := by decide +kernel
theorem dX6_refuseTrack_7 : decode cX6_refuseTrack 7 = .ok (.ifCond .ne 6, 3) := by decide +kernel
theorem dX6_refuseTrack_10 : decode cX6_refuseTrack 10 = .ok (.bipush (-4), 2) := by decide +kernel
theorem dX6_refuseTrack_12 : decode cX6_refuseTrack 12 = .ok (.ireturn, 1) := by decide +kernel
theorem dX6_refuseTrack_13 : decode cX6_refuseTrack 13 = .ok (.iload_n 1, 1) := by decide +kernel
theorem dX6_refuseTrack_14 : decode cX6_refuseTrack 14 = .ok (.invokestatic 244, 3) := by decide +kernel
theorem dX6_refuseTrack_17 : decode cX6_refuseTrack 17 = .ok (.iconst 5, 1) := by decide +kernel
theorem dX6_refuseTrack_18 : decode cX6_refuseTrack 18 = .ok (.if_icmp .le 6, 3) := by decide +kernel
theorem dX6_refuseTrack_21 : decode cX6_refuseTrack 21 = .ok (.bipush (-6), 2) := by decide +kernel
theorem dX6_refuseTrack_23 : decode cX6_refuseTrack 23 = .ok (.ireturn, 1) := by decide +kernel
theorem dX6_refuseTrack_24 : decode cX6_refuseTrack 24 = .ok (.aload_n 2, 1) := by decide +kernel
theorem dX6_refuseTrack_25 : decode cX6_refuseTrack 25 = .ok (.invokevirtual 90, 3) := by decide +kernel
theorem dX6_refuseTrack_28 : decode cX6_refuseTrack 28 = .ok (.ifCond .ne 9, 3) := by decide +kernel
theorem dX6_refuseTrack_31 : decode cX6_refuseTrack 31 = .ok (.aload_n 0, 1) := by decide +kernel
theorem dX6_refuseTrack_32 : decode cX6_refuseTrack 32 = .ok (.iconst 1, 1) := by decide +kernel
theorem dX6_refuseTrack_33 : decode cX6_refuseTrack 33 = .ok (.invokevirtual 68, 3) := by decide +kernel
theorem dX6_refuseTrack_36 : decode cX6_refuseTrack 36 = .ok (.ireturn, 1) := by decide +kernel
theorem dX6_refuseTrack_37 : decode cX6_refuseTrack 37 = .ok (.aload_n 2, 1) := by decide +kernel
theorem dX6_refuseTrack_38 : decode cX6_refuseTrack 38 = .ok (.invokevirtual 104, 3) := by decide +kernel
theorem dX6_refuseTrack_41 : decode cX6_refuseTrack 41 = .ok (.aload_n 0, 1) := by decide +kernel
theorem dX6_refuseTrack_42 : decode cX6_refuseTrack 42 = .ok (.getfield 21, 3) := by decide +kernel
theorem dX6_refuseTrack_45 : decode cX6_refuseTrack 45 = .ok (.getfield 136, 3) := by decide +kernel
theorem dX6_refuseTrack_48 : decode cX6_refuseTrack 48 = .ok (.if_icmp .eq 9, 3) := by decide +kernel
theorem dX6_refuseTrack_51 : decode cX6_refuseTrack 51 = .ok (.aload_n 0, 1) := by decide +kernel
theorem dX6_refuseTrack_52 : decode cX6_refuseTrack 52 = .ok (.iconst 5, 1) := by decide +kernel
theorem dX6_refuseTrack_53 : decode cX6_refuseTrack 53 = .ok (.invokevirtual 68, 3) := by decide +kernel
theorem dX6_refuseTrack_56 : decode cX6_refuseTrack 56 = .ok (.ireturn, 1) := by decide +kernel
theorem dX6_refuseTrack_57 : decode cX6_refuseTrack 57 = .ok (.iconst 0, 1) := by decide +kernel
theorem dX6_refuseTrack_58 : decode cX6_refuseTrack 58 = .ok (.istore_n 3, 1) := by decide +kernel
theorem dX6_refuseTrack_59 : decode cX6_refuseTrack 59 = .ok (.iload_n 3, 1) := by decide +kernel
theorem dX6_refuseTrack_60 : decode cX6_refuseTrack 60 = .ok (.aload_n 0, 1) := by decide +kernel
theorem dX6_refuseTrack_61 : decode cX6_refuseTrack 61 = .ok (.getfield 21, 3) := by decide +kernel
theorem dX6_refuseTrack_64 : decode cX6_refuseTrack 64 = .ok (.getfield 136, 3) := by decide +kernel
theorem dX6_refuseTrack_67 : decode cX6_refuseTrack 67 = .ok (.if_icmp .ge 38, 3) := by decide +kernel
theorem dX6_refuseTrack_70 : decode cX6_refuseTrack 70 = .ok (.aload_n 2, 1) := by decide +kernel
theorem dX6_refuseTrack_71 : decode cX6_refuseTrack 71 = .ok (.iload_n 3, 1) := by decide +kernel
theorem dX6_refuseTrack_72 : decode cX6_refuseTrack 72 = .ok (.invokevirtual 87, 3) := by decide +kernel
theorem dX6_refuseTrack_75 : decode cX6_refuseTrack 75 = .ok (.bipush (-9), 2) := by decide +kernel
theorem dX6_refuseTrack_77 : decode cX6_refuseTrack 77 = .ok (.if_icmp .eq 22, 3) := by decide +kernel
theorem dX6_refuseTrack_80 : decode cX6_refuseTrack 80 = .ok (.aload_n 2, 1) := by decide +kernel
theorem dX6_refuseTrack_81 : decode cX6_refuseTrack 81 = .ok (.iload_n 3, 1) := by decide +kernel
theorem dX6_refuseTrack_82 : decode cX6_refuseTrack 82 = .ok (.invokevirtual 87, 3) := by decide +kernel
theorem dX6_refuseTrack_85 : decode cX6_refuseTrack 85 = .ok (.bipush 20, 2) := by decide +kernel
theorem dX6_refuseTrack_87 : decode cX6_refuseTrack 87 = .ok (.invokestatic 64, 3) := by decide +kernel
theorem dX6_refuseTrack_90 : decode cX6_refuseTrack 90 = .ok (.ifCond .ne 9, 3) := by decide +kernel
theorem dX6_refuseTrack_93 : decode cX6_refuseTrack 93 = .ok (.aload_n 0, 1) := by decide +kernel
theorem dX6_refuseTrack_94 : decode cX6_refuseTrack 94 = .ok (.iconst 3, 1) := by decide +kernel
theorem dX6_refuseTrack_95 : decode cX6_refuseTrack 95 = .ok (.invokevirtual 68, 3) := by decide +kernel
theorem dX6_refuseTrack_98 : decode cX6_refuseTrack 98 = .ok (.ireturn, 1) := by decide +kernel
theorem dX6_refuseTrack_99 : decode cX6_refuseTrack 99 = .ok (.iinc 3 1, 3) := by decide +kernel
theorem dX6_refuseTrack_102 : decode cX6_refuseTrack 102 = .ok (.goto (-43), 3) := by decide +kernel
theorem dX6_refuseTrack_105 : decode cX6_refuseTrack 105 = .ok (.iconst 0, 1) := by decide +kernel
theorem dX6_refuseTrack_106 : decode cX6_refuseTrack 106 = .ok (.ireturn, 1) := by decide +kernel
theorem dX6_isBuyer_0 : decode cX6_isBuyer 0 = .ok (.iload_n 1, 1) := by decide +kernel
theorem dX6_isBuyer_1 : decode cX6_isBuyer 1 = .ok (.aload_n 0, 1) := by decide +kernel
theorem dX6_isBuyer_2 : decode cX6_isBuyer 2 = .ok (.getfield 21, 3) := by decide +kernel
theorem dX6_isBuyer_5 : decode cX6_isBuyer 5 = .ok (.getfield 136, 3) := by decide +kernel
theorem dX6_isBuyer_8 : decode cX6_isBuyer 8 = .ok (.invokestatic 64, 3) := by decide +kernel
theorem dX6_isBuyer_11 : decode cX6_isBuyer 11 = .ok (.ireturn, 1) := by decide +kernel
theorem dX6_isStall_0 : decode cX6_isStall 0 = .ok (.iload_n 1, 1) := by decide +kernel
theorem dX6_isStall_1 : decode cX6_isStall 1 = .ok (.aload_n 0, 1) := by decide +kernel
theorem dX6_isStall_2 : decode cX6_isStall 2 = .ok (.getfield 21, 3) := by decide +kernel
theorem dX6_isStall_5 : decode cX6_isStall 5 = .ok (.getfield 315, 3) := by decide +kernel
theorem dX6_isStall_8 : decode cX6_isStall 8 = .ok (.invokestatic 64, 3) := by decide +kernel
theorem dX6_isStall_11 : decode cX6_isStall 11 = .ok (.ireturn, 1) := by decide +kernel
theorem dX6_isSetOfBuyers_0 : decode cX6_isSetOfBuyers 0 = .ok (.iload_n 1, 1) := by decide +kernel
theorem dX6_isSetOfBuyers_1 : decode cX6_isSetOfBuyers 1 = .ok (.iconst 1, 1) := by decide +kernel
theorem dX6_isSetOfBuyers_2 : decode cX6_isSetOfBuyers 2 = .ok (.aload_n 0, 1) := by decide +kernel
theorem dX6_isSetOfBuyers_3 : decode cX6_isSetOfBuyers 3 = .ok (.getfield 21, 3) := by decide +kernel
theorem dX6_isSetOfBuyers_6 : decode cX6_isSetOfBuyers 6 = .ok (.getfield 136, 3) := by decide +kernel
theorem dX6_isSetOfBuyers_9 : decode cX6_isSetOfBuyers 9 = .ok (.ishl, 1) := by decide +kernel
theorem dX6_isSetOfBuyers_10 : decode cX6_isSetOfBuyers 10 = .ok (.invokestatic 64, 3) := by decide +kernel
theorem dX6_isSetOfBuyers_13 : decode cX6_isSetOfBuyers 13 = .ok (.ireturn, 1) := by decide +kernel
theorem dX6_isKept_0 : decode cX6_isKept 0 = .ok (.aload_n 0, 1) := by decide +kernel
theorem dX6_isKept_1 : decode cX6_isKept 1 = .ok (.getfield 25, 3) := by decide +kernel
theorem dX6_isKept_4 : decode cX6_isKept 4 = .ok (.iload_n 1, 1) := by decide +kernel
theorem dX6_isKept_5 : decode cX6_isKept 5 = .ok (.aaload, 1) := by decide +kernel
theorem dX6_isKept_6 : decode cX6_isKept 6 = .ok (.getfield 136, 3) := by decide +kernel
theorem dX6_isKept_9 : decode cX6_isKept 9 = .ok (.ifCond .le 7, 3) := by decide +kernel
theorem dX6_isKept_12 : decode cX6_isKept 12 = .ok (.iconst 1, 1) := by decide +kernel
theorem dX6_isKept_13 : decode cX6_isKept 13 = .ok (.goto 4, 3) := by decide +kernel
theorem dX6_isKept_16 : decode cX6_isKept 16 = .ok (.iconst 0, 1) := by decide +kernel
theorem dX6_isKept_17 : decode cX6_isKept 17 = .ok (.ireturn, 1) := by decide +kernel
theorem dX6_numberOf_0 : decode cX6_numberOf 0 = .ok (.iload_n 1, 1) := by decide +kernel
theorem dX6_numberOf_1 : decode cX6_numberOf 1 = .ok (.tableswitch 110 0 7 #[47, 55, 63, 71, 80, 89, 94, 102], 47) := by decide +kernel
theorem dX6_numberOf_48 : decode cX6_numberOf 48 = .ok (.aload_n 0, 1) := by decide +kernel
theorem dX6_numberOf_49 : decode cX6_numberOf 49 = .ok (.getfield 21, 3) := by decide +kernel
theorem dX6_numberOf_52 : decode cX6_numberOf 52 = .ok (.getfield 136, 3) := by decide +kernel
theorem dX6_numberOf_55 : decode cX6_numberOf 55 = .ok (.ireturn, 1) := by decide +kernel
theorem dX6_numberOf_56 : decode cX6_numberOf 56 = .ok (.aload_n 0, 1) := by decide +kernel
theorem dX6_numberOf_57 : decode cX6_numberOf 57 = .ok (.getfield 21, 3) := by decide +kernel
theorem dX6_numberOf_60 : decode cX6_numberOf 60 = .ok (.getfield 315, 3) := by decide +kernel
theorem dX6_numberOf_63 : decode cX6_numberOf 63 = .ok (.ireturn, 1) := by decide +kernel
theorem dX6_numberOf_64 : decode cX6_numberOf 64 = .ok (.aload_n 0, 1) := by decide +kernel
theorem dX6_numberOf_65 : decode cX6_numberOf 65 = .ok (.getfield 21, 3) := by decide +kernel
theorem dX6_numberOf_68 : decode cX6_numberOf 68 = .ok (.getfield 126, 3) := by decide +kernel
theorem dX6_numberOf_71 : decode cX6_numberOf 71 = .ok (.ireturn, 1) := by decide +kernel
theorem dX6_numberOf_72 : decode cX6_numberOf 72 = .ok (.aload_n 0, 1) := by decide +kernel
theorem dX6_numberOf_73 : decode cX6_numberOf 73 = .ok (.getfield 21, 3) := by decide +kernel
theorem dX6_numberOf_76 : decode cX6_numberOf 76 = .ok (.iconst 1, 1) := by decide +kernel
theorem dX6_numberOf_77 : decode cX6_numberOf 77 = .ok (.invokevirtual 318, 3) := by decide +kernel
theorem dX6_numberOf_80 : decode cX6_numberOf 80 = .ok (.ireturn, 1) := by decide +kernel
theorem dX6_numberOf_81 : decode cX6_numberOf 81 = .ok (.aload_n 0, 1) := by decide +kernel
theorem dX6_numberOf_82 : decode cX6_numberOf 82 = .ok (.getfield 21, 3) := by decide +kernel
theorem dX6_numberOf_85 : decode cX6_numberOf 85 = .ok (.iconst 2, 1) := by decide +kernel
theorem dX6_numberOf_86 : decode cX6_numberOf 86 = .ok (.invokevirtual 318, 3) := by decide +kernel
theorem dX6_numberOf_89 : decode cX6_numberOf 89 = .ok (.ireturn, 1) := by decide +kernel
theorem dX6_numberOf_90 : decode cX6_numberOf 90 = .ok (.aload_n 0, 1) := by decide +kernel
theorem dX6_numberOf_91 : decode cX6_numberOf 91 = .ok (.invokevirtual 321, 3) := by decide +kernel
theorem dX6_numberOf_94 : decode cX6_numberOf 94 = .ok (.ireturn, 1) := by decide +kernel
theorem dX6_numberOf_95 : decode cX6_numberOf 95 = .ok (.aload_n 0, 1) := by decide +kernel
theorem dX6_numberOf_96 : decode cX6_numberOf 96 = .ok (.getfield 11, 3) := by decide +kernel
theorem dX6_numberOf_99 : decode cX6_numberOf 99 = .ok (.invokestatic 324, 3) := by decide +kernel
theorem dX6_numberOf_102 : decode cX6_numberOf 102 = .ok (.ireturn, 1) := by decide +kernel
theorem dX6_numberOf_103 : decode cX6_numberOf 103 = .ok (.aload_n 0, 1) := by decide +kernel
theorem dX6_numberOf_104 : decode cX6_numberOf 104 = .ok (.getfield 15, 3) := by decide +kernel
theorem dX6_numberOf_107 : decode cX6_numberOf 107 = .ok (.invokestatic 324, 3) := by decide +kernel
theorem dX6_numberOf_110 : decode cX6_numberOf 110 = .ok (.ireturn, 1) := by decide +kernel
theorem dX6_numberOf_111 : decode cX6_numberOf 111 = .ok (.aload_n 0, 1) := by decide +kernel
theorem dX6_numberOf_112 : decode cX6_numberOf 112 = .ok (.getfield 21, 3) := by decide +kernel
theorem dX6_numberOf_115 : decode cX6_numberOf 115 = .ok (.invokevirtual 328, 3) := by decide +kernel
theorem dX6_numberOf_118 : decode cX6_numberOf 118 = .ok (.ireturn, 1) := by decide +kernel
theorem dX6_howManyKept_0 : decode cX6_howManyKept 0 = .ok (.iconst 0, 1) := by decide +kernel
theorem dX6_howManyKept_1 : decode cX6_howManyKept 1 = .ok (.istore_n 1, 1) := by decide +kernel
theorem dX6_howManyKept_2 : decode cX6_howManyKept 2 = .ok (.iconst 0, 1) := by decide +kernel
theorem dX6_howManyKept_3 : decode cX6_howManyKept 3 = .ok (.istore_n 2, 1) := by decide +kernel
theorem dX6_howManyKept_4 : decode cX6_howManyKept 4 = .ok (.iload_n 2, 1) := by decide +kernel
theorem dX6_howManyKept_5 : decode cX6_howManyKept 5 = .ok (.iconst 3, 1) := by decide +kernel
theorem dX6_howManyKept_6 : decode cX6_howManyKept 6 = .ok (.if_icmp .ge 25, 3) := by decide +kernel
theorem dX6_howManyKept_9 : decode cX6_howManyKept 9 = .ok (.iload_n 1, 1) := by decide +kernel
theorem dX6_howManyKept_10 : decode cX6_howManyKept 10 = .ok (.aload_n 0, 1) := by decide +kernel
theorem dX6_howManyKept_11 : decode cX6_howManyKept 11 = .ok (.iload_n 2, 1) := by decide +kernel
theorem dX6_howManyKept_12 : decode cX6_howManyKept 12 = .ok (.invokevirtual 210, 3) := by decide +kernel
theorem dX6_howManyKept_15 : decode cX6_howManyKept 15 = .ok (.ifCond .eq 7, 3) := by decide +kernel
theorem dX6_howManyKept_18 : decode cX6_howManyKept 18 = .ok (.iconst 1, 1) := by decide +kernel
theorem dX6_howManyKept_19 : decode cX6_howManyKept 19 = .ok (.goto 4, 3) := by decide +kernel
theorem dX6_howManyKept_22 : decode cX6_howManyKept 22 = .ok (.iconst 0, 1) := by decide +kernel
theorem dX6_howManyKept_23 : decode cX6_howManyKept 23 = .ok (.iadd, 1) := by decide +kernel
theorem dX6_howManyKept_24 : decode cX6_howManyKept 24 = .ok (.istore_n 1, 1) := by decide +kernel
theorem dX6_howManyKept_25 : decode cX6_howManyKept 25 = .ok (.iinc 2 1, 3) := by decide +kernel
theorem dX6_howManyKept_28 : decode cX6_howManyKept 28 = .ok (.goto (-24), 3) := by decide +kernel
theorem dX6_howManyKept_31 : decode cX6_howManyKept 31 = .ok (.iload_n 1, 1) := by decide +kernel
theorem dX6_howManyKept_32 : decode cX6_howManyKept 32 = .ok (.ireturn, 1) := by decide +kernel
theorem dX6_howManyThere_0 : decode cX6_howManyThere 0 = .ok (.iconst 0, 1) := by decide +kernel
theorem dX6_howManyThere_1 : decode cX6_howManyThere 1 = .ok (.istore_n 1, 1) := by decide +kernel
theorem dX6_howManyThere_2 : decode cX6_howManyThere 2 = .ok (.aload_n 0, 1) := by decide +kernel
theorem dX6_howManyThere_3 : decode cX6_howManyThere 3 = .ok (.astore_n 2, 1) := by decide +kernel
theorem dX6_howManyThere_4 : decode cX6_howManyThere 4 = .ok (.aload_n 2, 1) := by decide +kernel
theorem dX6_howManyThere_5 : decode cX6_howManyThere 5 = .ok (.arraylength, 1) := by decide +kernel
theorem dX6_howManyThere_6 : decode cX6_howManyThere 6 = .ok (.istore_n 3, 1) := by decide +kernel
theorem dX6_howManyThere_7 : decode cX6_howManyThere 7 = .ok (.iconst 0, 1) := by decide +kernel
theorem dX6_howManyThere_8 : decode cX6_howManyThere 8 = .ok (.istore 4, 2) := by decide +kernel
theorem dX6_howManyThere_10 : decode cX6_howManyThere 10 = .ok (.iload 4, 2) := by decide +kernel
theorem dX6_howManyThere_12 : decode cX6_howManyThere 12 = .ok (.iload_n 3, 1) := by decide +kernel
theorem dX6_howManyThere_13 : decode cX6_howManyThere 13 = .ok (.if_icmp .ge 31, 3) := by decide +kernel
theorem dX6_howManyThere_16 : decode cX6_howManyThere 16 = .ok (.aload_n 2, 1) := by decide +kernel
theorem dX6_howManyThere_17 : decode cX6_howManyThere 17 = .ok (.iload 4, 2) := by decide +kernel
theorem dX6_howManyThere_19 : decode cX6_howManyThere 19 = .ok (.aaload, 1) := by decide +kernel
theorem dX6_howManyThere_20 : decode cX6_howManyThere 20 = .ok (.astore 5, 2) := by decide +kernel
theorem dX6_howManyThere_22 : decode cX6_howManyThere 22 = .ok (.iload_n 1, 1) := by decide +kernel
theorem dX6_howManyThere_23 : decode cX6_howManyThere 23 = .ok (.aload 5, 2) := by decide +kernel
theorem dX6_howManyThere_25 : decode cX6_howManyThere 25 = .ok (.invokevirtual 90, 3) := by decide +kernel
theorem dX6_howManyThere_28 : decode cX6_howManyThere 28 = .ok (.ifCond .eq 7, 3) := by decide +kernel
theorem dX6_howManyThere_31 : decode cX6_howManyThere 31 = .ok (.iconst 1, 1) := by decide +kernel
theorem dX6_howManyThere_32 : decode cX6_howManyThere 32 = .ok (.goto 4, 3) := by decide +kernel
theorem dX6_howManyThere_35 : decode cX6_howManyThere 35 = .ok (.iconst 0, 1) := by decide +kernel
theorem dX6_howManyThere_36 : decode cX6_howManyThere 36 = .ok (.iadd, 1) := by decide +kernel
theorem dX6_howManyThere_37 : decode cX6_howManyThere 37 = .ok (.istore_n 1, 1) := by decide +kernel
theorem dX6_howManyThere_38 : decode cX6_howManyThere 38 = .ok (.iinc 4 1, 3) := by decide +kernel
theorem dX6_howManyThere_41 : decode cX6_howManyThere 41 = .ok (.goto (-31), 3) := by decide +kernel
theorem dX6_howManyThere_44 : decode cX6_howManyThere 44 = .ok (.iload_n 1, 1) := by decide +kernel
theorem dX6_howManyThere_45 : decode cX6_howManyThere 45 = .ok (.ireturn, 1) := by decide +kernel
theorem dX6_isWithin_0 : decode cX6_isWithin 0 = .ok (.iload_n 0, 1) := by decide +kernel
theorem dX6_isWithin_1 : decode cX6_isWithin 1 = .ok (.ifCond .lt 12, 3) := by decide +kernel
theorem dX6_isWithin_4 : decode cX6_isWithin 4 = .ok (.iload_n 0, 1) := by decide +kernel
theorem dX6_isWithin_5 : decode cX6_isWithin 5 = .ok (.iload_n 1, 1) := by decide +kernel
theorem dX6_isWithin_6 : decode cX6_isWithin 6 = .ok (.if_icmp .ge 7, 3) := by decide +kernel
theorem dX6_isWithin_9 : decode cX6_isWithin 9 = .ok (.iconst 1, 1) := by decide +kernel
theorem dX6_isWithin_10 : decode cX6_isWithin 10 = .ok (.goto 4, 3) := by decide +kernel
theorem dX6_isWithin_13 : decode cX6_isWithin 13 = .ok (.iconst 0, 1) := by decide +kernel
theorem dX6_isWithin_14 : decode cX6_isWithin 14 = .ok (.ireturn, 1) := by decide +kernel
theorem dX6_isUpTo_0 : decode cX6_isUpTo 0 = .ok (.iload_n 0, 1) := by decide +kernel
theorem dX6_isUpTo_1 : decode cX6_isUpTo 1 = .ok (.ifCond .lt 12, 3) := by decide +kernel
theorem dX6_isUpTo_4 : decode cX6_isUpTo 4 = .ok (.iload_n 0, 1) := by decide +kernel
theorem dX6_isUpTo_5 : decode cX6_isUpTo 5 = .ok (.iload_n 1, 1) := by decide +kernel
theorem dX6_isUpTo_6 : decode cX6_isUpTo 6 = .ok (.if_icmp .gt 7, 3) := by decide +kernel
theorem dX6_isUpTo_9 : decode cX6_isUpTo 9 = .ok (.iconst 1, 1) := by decide +kernel
theorem dX6_isUpTo_10 : decode cX6_isUpTo 10 = .ok (.goto 4, 3) := by decide +kernel
theorem dX6_isUpTo_13 : decode cX6_isUpTo 13 = .ok (.iconst 0, 1) := by decide +kernel
theorem dX6_isUpTo_14 : decode cX6_isUpTo 14 = .ok (.ireturn, 1) := by decide +kernel
theorem dX6_isIn_0 : decode cX6_isIn 0 = .ok (.iload_n 0, 1) := by decide +kernel
theorem dX6_isIn_1 : decode cX6_isIn 1 = .ok (.iload_n 1, 1) := by decide +kernel
theorem dX6_isIn_2 : decode cX6_isIn 2 = .ok (.ishr, 1) := by decide +kernel
theorem dX6_isIn_3 : decode cX6_isIn 3 = .ok (.iconst 1, 1) := by decide +kernel
theorem dX6_isIn_4 : decode cX6_isIn 4 = .ok (.iand, 1) := by decide +kernel
theorem dX6_isIn_5 : decode cX6_isIn 5 = .ok (.ifCond .eq 7, 3) := by decide +kernel
theorem dX6_isIn_8 : decode cX6_isIn 8 = .ok (.iconst 1, 1) := by decide +kernel
theorem dX6_isIn_9 : decode cX6_isIn 9 = .ok (.goto 4, 3) := by decide +kernel
theorem dX6_isIn_12 : decode cX6_isIn 12 = .ok (.iconst 0, 1) := by decide +kernel
theorem dX6_isIn_13 : decode cX6_isIn 13 = .ok (.ireturn, 1) := by decide +kernel
theorem dX6_commonDivisor_0 : decode cX6_commonDivisor 0 = .ok (.iconst 0, 1) := by decide +kernel
theorem dX6_commonDivisor_1 : decode cX6_commonDivisor 1 = .ok (.istore 4, 2) := by decide +kernel
theorem dX6_commonDivisor_3 : decode cX6_commonDivisor 3 = .ok (.iload 4, 2) := by decide +kernel
theorem dX6_commonDivisor_5 : decode cX6_commonDivisor 5 = .ok (.bipush 100, 2) := by decide +kernel
theorem dX6_commonDivisor_7 : decode cX6_commonDivisor 7 = .ok (.if_icmp .ge 25, 3) := by decide +kernel
theorem dX6_commonDivisor_10 : decode cX6_commonDivisor 10 = .ok (.lload_n 2, 1) := by decide +kernel
theorem dX6_commonDivisor_11 : decode cX6_commonDivisor 11 = .ok (.lconst 0, 1) := by decide +kernel
theorem dX6_commonDivisor_12 : decode cX6_commonDivisor 12 = .ok (.lcmp, 1) := by decide +kernel
theorem dX6_commonDivisor_13 : decode cX6_commonDivisor 13 = .ok (.ifCond .eq 19, 3) := by decide +kernel
theorem dX6_commonDivisor_16 : decode cX6_commonDivisor 16 = .ok (.lload_n 0, 1) := by decide +kernel
theorem dX6_commonDivisor_17 : decode cX6_commonDivisor 17 = .ok (.lload_n 2, 1) := by decide +kernel
theorem dX6_commonDivisor_18 : decode cX6_commonDivisor 18 = .ok (.lrem, 1) := by decide +kernel
theorem dX6_commonDivisor_19 : decode cX6_commonDivisor 19 = .ok (.lstore 5, 2) := by decide +kernel
theorem dX6_commonDivisor_21 : decode cX6_commonDivisor 21 = .ok (.lload_n 2, 1) := by decide +kernel
theorem dX6_commonDivisor_22 : decode cX6_commonDivisor 22 = .ok (.lstore_n 0, 1) := by decide +kernel
theorem dX6_commonDivisor_23 : decode cX6_commonDivisor 23 = .ok (.lload 5, 2) := by decide +kernel
theorem dX6_commonDivisor_25 : decode cX6_commonDivisor 25 = .ok (.lstore_n 2, 1) := by decide +kernel
theorem dX6_commonDivisor_26 : decode cX6_commonDivisor 26 = .ok (.iinc 4 1, 3) := by decide +kernel
theorem dX6_commonDivisor_29 : decode cX6_commonDivisor 29 = .ok (.goto (-26), 3) := by decide +kernel
theorem dX6_commonDivisor_32 : decode cX6_commonDivisor 32 = .ok (.lload_n 0, 1) := by decide +kernel
theorem dX6_commonDivisor_33 : decode cX6_commonDivisor 33 = .ok (.lconst 1, 1) := by decide +kernel
theorem dX6_commonDivisor_34 : decode cX6_commonDivisor 34 = .ok (.invokestatic 331, 3) := by decide +kernel
theorem dX6_commonDivisor_37 : decode cX6_commonDivisor 37 = .ok (.lreturn, 1) := by decide +kernel
theorem dX7_init_0 : decode cX7_init 0 = .ok (.aload_n 0, 1) := by decide +kernel
theorem dX7_init_1 : decode cX7_init 1 = .ok (.invokespecial 1, 3) := by decide +kernel
theorem dX7_init_4 : decode cX7_init 4 = .ok (.aload_n 0, 1) := by decide +kernel
theorem dX7_init_5 : decode cX7_init 5 = .ok (.bipush 6, 2) := by decide +kernel
theorem dX7_init_7 : decode cX7_init 7 = .ok (.newarray .int, 2) := by decide +kernel
theorem dX7_init_9 : decode cX7_init 9 = .ok (.putfield 7, 3) := by decide +kernel
theorem dX7_init_12 : decode cX7_init 12 = .ok (.aload_n 0, 1) := by decide +kernel
theorem dX7_init_13 : decode cX7_init 13 = .ok (.bipush 6, 2) := by decide +kernel
theorem dX7_init_15 : decode cX7_init 15 = .ok (.newarray .int, 2) := by decide +kernel
theorem dX7_init_17 : decode cX7_init 17 = .ok (.putfield 13, 3) := by decide +kernel
theorem dX7_init_20 : decode cX7_init 20 = .ok (.aload_n 0, 1) := by decide +kernel
theorem dX7_init_21 : decode cX7_init 21 = .ok (.sipush 240, 3) := by decide +kernel
theorem dX7_init_24 : decode cX7_init 24 = .ok (.newarray .int, 2) := by decide +kernel
theorem dX7_init_26 : decode cX7_init 26 = .ok (.putfield 16, 3) := by decide +kernel
theorem dX7_init_29 : decode cX7_init 29 = .ok (.aload_n 0, 1) := by decide +kernel
theorem dX7_init_30 : decode cX7_init 30 = .ok (.bipush 40, 2) := by decide +kernel
theorem dX7_init_32 : decode cX7_init 32 = .ok (.newarray .int, 2) := by decide +kernel
theorem dX7_init_34 : decode cX7_init 34 = .ok (.putfield 19, 3) := by decide +kernel
theorem dX7_init_37 : decode cX7_init 37 = .ok (.aload_n 0, 1) := by decide +kernel
theorem dX7_init_38 : decode cX7_init 38 = .ok (.iconst 4, 1) := by decide +kernel
theorem dX7_init_39 : decode cX7_init 39 = .ok (.newarray .int, 2) := by decide +kernel
theorem dX7_init_41 : decode cX7_init 41 = .ok (.putfield 22, 3) := by decide +kernel
theorem dX7_init_44 : decode cX7_init 44 = .ok (.aload_n 0, 1) := by decide +kernel
theorem dX7_init_45 : decode cX7_init 45 = .ok (.sipush 320, 3) := by decide +kernel
theorem dX7_init_48 : decode cX7_init 48 = .ok (.newarray .int, 2) := by decide +kernel
theorem dX7_init_50 : decode cX7_init 50 = .ok (.putfield 25, 3) := by decide +kernel
theorem dX7_init_53 : decode cX7_init 53 = .ok (.aload_n 0, 1) := by decide +kernel
theorem dX7_init_54 : decode cX7_init 54 = .ok (.bipush 12, 2) := by decide +kernel
theorem dX7_init_56 : decode cX7_init 56 = .ok (.newarray .int, 2) := by decide +kernel
theorem dX7_init_58 : decode cX7_init 58 = .ok (.putfield 28, 3) := by decide +kernel
theorem dX7_init_61 : decode cX7_init 61 = .ok (.aload_n 0, 1) := by decide +kernel
theorem dX7_init_62 : decode cX7_init 62 = .ok (.bipush 12, 2) := by decide +kernel
theorem dX7_init_64 : decode cX7_init 64 = .ok (.newarray .int, 2) := by decide +kernel
theorem dX7_init_66 : decode cX7_init 66 = .ok (.putfield 31, 3) := by decide +kernel
theorem dX7_init_69 : decode cX7_init 69 = .ok (.aload_n 0, 1) := by decide +kernel
theorem dX7_init_70 : decode cX7_init 70 = .ok (.bipush 12, 2) := by decide +kernel
theorem dX7_init_72 : decode cX7_init 72 = .ok (.newarray .int, 2) := by decide +kernel
theorem dX7_init_74 : decode cX7_init 74 = .ok (.putfield 34, 3) := by decide +kernel
theorem dX7_init_77 : decode cX7_init 77 = .ok (.aload_n 0, 1) := by decide +kernel
theorem dX7_init_78 : decode cX7_init 78 = .ok (.bipush 6, 2) := by decide +kernel
theorem dX7_init_80 : decode cX7_init 80 = .ok (.newarray .int, 2) := by decide +kernel
theorem dX7_init_82 : decode cX7_init 82 = .ok (.putfield 37, 3) := by decide +kernel
theorem dX7_init_85 : decode cX7_init 85 = .ok (.aload_n 0, 1) := by decide +kernel
theorem dX7_init_86 : decode cX7_init 86 = .ok (.bipush 12, 2) := by decide +kernel
theorem dX7_init_88 : decode cX7_init 88 = .ok (.newarray .int, 2) := by decide +kernel
theorem dX7_init_90 : decode cX7_init 90 = .ok (.putfield 40, 3) := by decide +kernel
theorem dX7_init_93 : decode cX7_init 93 = .ok (.aload_n 0, 1) := by decide +kernel
theorem dX7_init_94 : decode cX7_init 94 = .ok (.bipush 12, 2) := by decide +kernel
theorem dX7_init_96 : decode cX7_init 96 = .ok (.newarray .int, 2) := by decide +kernel
theorem dX7_init_98 : decode cX7_init 98 = .ok (.putfield 43, 3) := by decide +kernel
theorem dX7_init_101 : decode cX7_init 101 = .ok (.aload_n 0, 1) := by decide +kernel
theorem dX7_init_102 : decode cX7_init 102 = .ok (.bipush 12, 2) := by decide +kernel
theorem dX7_init_104 : decode cX7_init 104 = .ok (.newarray .int, 2) := by decide +kernel
theorem dX7_init_106 : decode cX7_init 106 = .ok (.putfield 46, 3) := by decide +kernel
theorem dX7_init_109 : decode cX7_init 109 = .ok (.aload_n 0, 1) := by decide +kernel
theorem dX7_init_110 : decode cX7_init 110 = .ok (.bipush 6, 2) := by decide +kernel
theorem dX7_init_112 : decode cX7_init 112 = .ok (.newarray .int, 2) := by decide +kernel
theorem dX7_init_114 : decode cX7_init 114 = .ok (.putfield 49, 3) := by decide +kernel
theorem dX7_init_117 : decode cX7_init 117 = .ok (.aload_n 0, 1) := by decide +kernel
theorem dX7_init_118 : decode cX7_init 118 = .ok (.sipush 1440, 3) := by decide +kernel
theorem dX7_init_121 : decode cX7_init 121 = .ok (.newarray .int, 2) := by decide +kernel
theorem dX7_init_123 : decode cX7_init 123 = .ok (.putfield 52, 3) := by decide +kernel
theorem dX7_init_126 : decode cX7_init 126 = .ok (.aload_n 0, 1) := by decide +kernel
theorem dX7_init_127 : decode cX7_init 127 = .ok (.bipush 96, 2) := by decide +kernel
theorem dX7_init_129 : decode cX7_init 129 = .ok (.newarray .int, 2) := by decide +kernel
theorem dX7_init_131 : decode cX7_init 131 = .ok (.putfield 55, 3) := by decide +kernel
theorem dX7_init_134 : decode cX7_init 134 = .ok (.aload_n 0, 1) := by decide +kernel
theorem dX7_init_135 : decode cX7_init 135 = .ok (.bipush 24, 2) := by decide +kernel
theorem dX7_init_137 : decode cX7_init 137 = .ok (.newarray .int, 2) := by decide +kernel
theorem dX7_init_139 : decode cX7_init 139 = .ok (.putfield 58, 3) := by decide +kernel
theorem dX7_init_142 : decode cX7_init 142 = .ok (.aload_n 0, 1) := by decide +kernel
theorem dX7_init_143 : decode cX7_init 143 = .ok (.bipush 84, 2) := by decide +kernel
theorem dX7_init_145 : decode cX7_init 145 = .ok (.newarray .int, 2) := by decide +kernel
theorem dX7_init_147 : decode cX7_init 147 = .ok (.putfield 61, 3) := by decide +kernel
theorem dX7_init_150 : decode cX7_init 150 = .ok (.aload_n 0, 1) := by decide +kernel
theorem dX7_init_151 : decode cX7_init 151 = .ok (.bipush 6, 2) := by decide +kernel
theorem dX7_init_153 : decode cX7_init 153 = .ok (.newarray .int, 2) := by decide +kernel
theorem dX7_init_155 : decode cX7_init 155 = .ok (.putfield 64, 3) := by decide +kernel
theorem dX7_init_158 : decode cX7_init 158 = .ok (.aload_n 0, 1) := by decide +kernel
theorem dX7_init_159 : decode cX7_init 159 = .ok (.bipush 6, 2) := by decide +kernel
theorem dX7_init_161 : decode cX7_init 161 = .ok (.newarray .int, 2) := by decide +kernel
theorem dX7_init_163 : decode cX7_init 163 = .ok (.putfield 67, 3) := by decide +kernel
theorem dX7_init_166 : decode cX7_init 166 = .ok (.aload_n 0, 1) := by decide +kernel
theorem dX7_init_167 : decode cX7_init 167 = .ok (.bipush 6, 2) := by decide +kernel
theorem dX7_init_169 : decode cX7_init 169 = .ok (.newarray .int, 2) := by decide +kernel
theorem dX7_init_171 : decode cX7_init 171 = .ok (.putfield 70, 3) := by decide +kernel
theorem dX7_init_174 : decode cX7_init 174 = .ok (.aload_n 0, 1) := by decide +kernel
theorem dX7_init_175 : decode cX7_init 175 = .ok (.bipush 6, 2) := by decide +kernel
theorem dX7_init_177 : decode cX7_init 177 = .ok (.newarray .int, 2) := by decide +kernel
theorem dX7_init_179 : decode cX7_init 179 = .ok (.putfield 73, 3) := by decide +kernel
theorem dX7_init_182 : decode cX7_init 182 = .ok (.iconst 0, 1) := by decide +kernel
theorem dX7_init_183 : decode cX7_init 183 = .ok (.istore_n 1, 1) := by decide +kernel
theorem dX7_init_184 : decode cX7_init 184 = .ok (.iload_n 1, 1) := by decide +kernel
theorem dX7_init_185 : decode cX7_init 185 = .ok (.bipush 6, 2) := by decide +kernel
theorem dX7_init_187 : decode cX7_init 187 = .ok (.if_icmp .ge 17, 3) := by decide +kernel
theorem dX7_init_190 : decode cX7_init 190 = .ok (.aload_n 0, 1) := by decide +kernel
theorem dX7_init_191 : decode cX7_init 191 = .ok (.getfield 13, 3) := by decide +kernel
theorem dX7_init_194 : decode cX7_init 194 = .ok (.iload_n 1, 1) := by decide +kernel
theorem dX7_init_195 : decode cX7_init 195 = .ok (.bipush (-9), 2) := by decide +kernel
theorem dX7_init_197 : decode cX7_init 197 = .ok (.iastore, 1) := by decide +kernel
theorem dX7_init_198 : decode cX7_init 198 = .ok (.iinc 1 1, 3) := by decide +kernel
theorem dX7_init_201 : decode cX7_init 201 = .ok (.goto (-17), 3) := by decide +kernel
theorem dX7_init_204 : decode cX7_init 204 = .ok (.iconst 0, 1) := by decide +kernel
theorem dX7_init_205 : decode cX7_init 205 = .ok (.istore_n 1, 1) := by decide +kernel
theorem dX7_init_206 : decode cX7_init 206 = .ok (.iload_n 1, 1) := by decide +kernel
theorem dX7_init_207 : decode cX7_init 207 = .ok (.iconst 4, 1) := by decide +kernel
theorem dX7_init_208 : decode cX7_init 208 = .ok (.if_icmp .ge 17, 3) := by decide +kernel
theorem dX7_init_211 : decode cX7_init 211 = .ok (.aload_n 0, 1) := by decide +kernel
theorem dX7_init_212 : decode cX7_init 212 = .ok (.getfield 22, 3) := by decide +kernel
theorem dX7_init_215 : decode cX7_init 215 = .ok (.iload_n 1, 1) := by decide +kernel
theorem dX7_init_216 : decode cX7_init 216 = .ok (.bipush (-9), 2) := by decide +kernel
theorem dX7_init_218 : decode cX7_init 218 = .ok (.iastore, 1) := by decide +kernel
theorem dX7_init_219 : decode cX7_init 219 = .ok (.iinc 1 1, 3) := by decide +kernel
theorem dX7_init_222 : decode cX7_init 222 = .ok (.goto (-16), 3) := by decide +kernel
theorem dX7_init_225 : decode cX7_init 225 = .ok (.iconst 0, 1) := by decide +kernel
theorem dX7_init_226 : decode cX7_init 226 = .ok (.istore_n 1, 1) := by decide +kernel
theorem dX7_init_227 : decode cX7_init 227 = .ok (.iload_n 1, 1) := by decide +kernel
theorem dX7_init_228 : decode cX7_init 228 = .ok (.iconst 3, 1) := by decide +kernel
theorem dX7_init_229 : decode cX7_init 229 = .ok (.if_icmp .ge 20, 3) := by decide +kernel
theorem dX7_init_232 : decode cX7_init 232 = .ok (.aload_n 0, 1) := by decide +kernel
theorem dX7_init_233 : decode cX7_init 233 = .ok (.getfield 55, 3) := by decide +kernel
theorem dX7_init_236 : decode cX7_init 236 = .ok (.bipush 32, 2) := by decide +kernel
theorem dX7_init_238 : decode cX7_init 238 = .ok (.iload_n 1, 1) := by decide +kernel
theorem dX7_init_239 : decode cX7_init 239 = .ok (.imul, 1) := by decide +kernel
theorem dX7_init_240 : decode cX7_init 240 = .ok (.bipush (-9), 2) := by decide +kernel
theorem dX7_init_242 : decode cX7_init 242 = .ok (.iastore, 1) := by decide +kernel
theorem dX7_init_243 : decode cX7_init 243 = .ok (.iinc 1 1, 3) := by decide +kernel
theorem dX7_init_246 : decode cX7_init 246 = .ok (.goto (-19), 3) := by decide +kernel
theorem dX7_init_249 : decode cX7_init 249 = .ok (.return_, 1) := by decide +kernel
theorem dX7_in_0 : decode cX7_in 0 = .ok (.iload_n 0, 1) := by decide +kernel
theorem dX7_in_1 : decode cX7_in 1 = .ok (.iload_n 1, 1) := by decide +kernel
theorem dX7_in_2 : decode cX7_in 2 = .ok (.if_icmp .lt 12, 3) := by decide +kernel
theorem dX7_in_5 : decode cX7_in 5 = .ok (.iload_n 0, 1) := by decide +kernel
theorem dX7_in_6 : decode cX7_in 6 = .ok (.iload_n 2, 1) := by decide +kernel
theorem dX7_in_7 : decode cX7_in 7 = .ok (.if_icmp .gt 7, 3) := by decide +kernel
theorem dX7_in_10 : decode cX7_in 10 = .ok (.iconst 1, 1) := by decide +kernel
theorem dX7_in_11 : decode cX7_in 11 = .ok (.goto 4, 3) := by decide +kernel
theorem dX7_in_14 : decode cX7_in 14 = .ok (.iconst 0, 1) := by decide +kernel
theorem dX7_in_15 : decode cX7_in 15 = .ok (.ireturn, 1) := by decide +kernel
theorem dX7_meet_0 : decode cX7_meet 0 = .ok (.aload_n 0, 1) := by decide +kernel
theorem dX7_meet_1 : decode cX7_meet 1 = .ok (.iload_n 1, 1) := by decide +kernel
theorem dX7_meet_2 : decode cX7_meet 2 = .ok (.putfield 76, 3) := by decide +kernel
theorem dX7_meet_5 : decode cX7_meet 5 = .ok (.aload_n 0, 1) := by decide +kernel
theorem dX7_meet_6 : decode cX7_meet 6 = .ok (.getfield 7, 3) := by decide +kernel
theorem dX7_meet_9 : decode cX7_meet 9 = .ok (.iload_n 1, 1) := by decide +kernel
theorem dX7_meet_10 : decode cX7_meet 10 = .ok (.dup2, 1) := by decide +kernel
theorem dX7_meet_11 : decode cX7_meet 11 = .ok (.iaload, 1) := by decide +kernel
theorem dX7_meet_12 : decode cX7_meet 12 = .ok (.iconst 1, 1) := by decide +kernel
theorem dX7_meet_13 : decode cX7_meet 13 = .ok (.iadd, 1) := by decide +kernel
theorem dX7_meet_14 : decode cX7_meet 14 = .ok (.iastore, 1) := by decide +kernel
theorem dX7_meet_15 : decode cX7_meet 15 = .ok (.bipush (-3), 2) := by decide +kernel
theorem dX7_meet_17 : decode cX7_meet 17 = .ok (.ireturn, 1) := by decide +kernel
theorem dX7_ask_0 : decode cX7_ask 0 = .ok (.aload_n 0, 1) := by decide +kernel
theorem dX7_ask_1 : decode cX7_ask 1 = .ok (.iload_n 1, 1) := by decide +kernel
theorem dX7_ask_2 : decode cX7_ask 2 = .ok (.putfield 80, 3) := by decide +kernel
theorem dX7_ask_5 : decode cX7_ask 5 = .ok (.iload_n 2, 1) := by decide +kernel
theorem dX7_ask_6 : decode cX7_ask 6 = .ok (.ireturn, 1) := by decide +kernel
theorem dX7_has_0 : decode cX7_has 0 = .ok (.iload_n 0, 1) := by decide +kernel
theorem dX7_has_1 : decode cX7_has 1 = .ok (.iload_n 1, 1) := by decide +kernel
theorem dX7_has_2 : decode cX7_has 2 = .ok (.ishr, 1) := by decide +kernel
theorem dX7_has_3 : decode cX7_has 3 = .ok (.iconst 1, 1) := by decide +kernel
theorem dX7_has_4 : decode cX7_has 4 = .ok (.iand, 1) := by decide +kernel
theorem dX7_has_5 : decode cX7_has 5 = .ok (.iconst 1, 1) := by decide +kernel
theorem dX7_has_6 : decode cX7_has 6 = .ok (.if_icmp .ne 7, 3) := by decide +kernel
theorem dX7_has_9 : decode cX7_has 9 = .ok (.iconst 1, 1) := by decide +kernel
theorem dX7_has_10 : decode cX7_has 10 = .ok (.goto 4, 3) := by decide +kernel
theorem dX7_has_13 : decode cX7_has 13 = .ok (.iconst 0, 1) := by decide +kernel
theorem dX7_has_14 : decode cX7_has 14 = .ok (.ireturn, 1) := by decide +kernel
theorem dX7_sizeOf_0 : decode cX7_sizeOf 0 = .ok (.iconst 0, 1) := by decide +kernel
theorem dX7_sizeOf_1 : decode cX7_sizeOf 1 = .ok (.istore_n 1, 1) := by decide +kernel
theorem dX7_sizeOf_2 : decode cX7_sizeOf 2 = .ok (.iconst 0, 1) := by decide +kernel
theorem dX7_sizeOf_3 : decode cX7_sizeOf 3 = .ok (.istore_n 2, 1) := by decide +kernel
theorem dX7_sizeOf_4 : decode cX7_sizeOf 4 = .ok (.iload_n 2, 1) := by decide +kernel
theorem dX7_sizeOf_5 : decode cX7_sizeOf 5 = .ok (.bipush 10, 2) := by decide +kernel
theorem dX7_sizeOf_7 : decode cX7_sizeOf 7 = .ok (.if_icmp .ge 17, 3) := by decide +kernel
theorem dX7_sizeOf_10 : decode cX7_sizeOf 10 = .ok (.iload_n 1, 1) := by decide +kernel
theorem dX7_sizeOf_11 : decode cX7_sizeOf 11 = .ok (.iload_n 0, 1) := by decide +kernel
theorem dX7_sizeOf_12 : decode cX7_sizeOf 12 = .ok (.iload_n 2, 1) := by decide +kernel
theorem dX7_sizeOf_13 : decode cX7_sizeOf 13 = .ok (.ishr, 1) := by decide +kernel
theorem dX7_sizeOf_14 : decode cX7_sizeOf 14 = .ok (.iconst 1, 1) := by decide +kernel
theorem dX7_sizeOf_15 : decode cX7_sizeOf 15 = .ok (.iand, 1) := by decide +kernel
theorem dX7_sizeOf_16 : decode cX7_sizeOf 16 = .ok (.iadd, 1) := by decide +kernel
theorem dX7_sizeOf_17 : decode cX7_sizeOf 17 = .ok (.istore_n 1, 1) := by decide +kernel
theorem dX7_sizeOf_18 : decode cX7_sizeOf 18 = .ok (.iinc 2 1, 3) := by decide +kernel
theorem dX7_sizeOf_21 : decode cX7_sizeOf 21 = .ok (.goto (-17), 3) := by decide +kernel
theorem dX7_sizeOf_24 : decode cX7_sizeOf 24 = .ok (.iload_n 1, 1) := by decide +kernel
theorem dX7_sizeOf_25 : decode cX7_sizeOf 25 = .ok (.ireturn, 1) := by decide +kernel
theorem dX7_isRow_0 : decode cX7_isRow 0 = .ok (.iload_n 0, 1) := by decide +kernel
theorem dX7_isRow_1 : decode cX7_isRow 1 = .ok (.iconst 0, 1) := by decide +kernel
theorem dX7_isRow_2 : decode cX7_isRow 2 = .ok (.iconst 5, 1) := by decide +kernel
theorem dX7_isRow_3 : decode cX7_isRow 3 = .ok (.invokestatic 83, 3) := by decide +kernel
theorem dX7_isRow_6 : decode cX7_isRow 6 = .ok (.ireturn, 1) := by decide +kernel
theorem dX7_isText_0 : decode cX7_isText 0 = .ok (.iload_n 0, 1) := by decide +kernel
theorem dX7_isText_1 : decode cX7_isText 1 = .ok (.iconst 0, 1) := by decide +kernel
theorem dX7_isText_2 : decode cX7_isText 2 = .ok (.iconst 3, 1) := by decide +kernel
theorem dX7_isText_3 : decode cX7_isText 3 = .ok (.invokestatic 83, 3) := by decide +kernel
theorem dX7_isText_6 : decode cX7_isText 6 = .ok (.ireturn, 1) := by decide +kernel
theorem dX7_askedRow_0 : decode cX7_askedRow 0 = .ok (.iload_n 1, 1) := by decide +kernel
theorem dX7_askedRow_1 : decode cX7_askedRow 1 = .ok (.invokestatic 87, 3) := by decide +kernel
theorem dX7_askedRow_4 : decode cX7_askedRow 4 = .ok (.ifCond .ne 7, 3) := by decide +kernel
theorem dX7_askedRow_7 : decode cX7_askedRow 7 = .ok (.iconst (-1), 1) := by decide +kernel
theorem dX7_askedRow_8 : decode cX7_askedRow 8 = .ok (.goto 21, 3) := by decide +kernel
theorem dX7_askedRow_11 : decode cX7_askedRow 11 = .ok (.aload_n 0, 1) := by decide +kernel
theorem dX7_askedRow_12 : decode cX7_askedRow 12 = .ok (.getfield 13, 3) := by decide +kernel
theorem dX7_askedRow_15 : decode cX7_askedRow 15 = .ok (.iload_n 1, 1) := by decide +kernel
theorem dX7_askedRow_16 : decode cX7_askedRow 16 = .ok (.iaload, 1) := by decide +kernel
theorem dX7_askedRow_17 : decode cX7_askedRow 17 = .ok (.ifCond .ge 11, 3) := by decide +kernel
theorem dX7_askedRow_20 : decode cX7_askedRow 20 = .ok (.aload_n 0, 1) := by decide +kernel
theorem dX7_askedRow_21 : decode cX7_askedRow 21 = .ok (.iconst 1, 1) := by decide +kernel
theorem dX7_askedRow_22 : decode cX7_askedRow 22 = .ok (.invokevirtual 91, 3) := by decide +kernel
theorem dX7_askedRow_25 : decode cX7_askedRow 25 = .ok (.goto 4, 3) := by decide +kernel
theorem dX7_askedRow_28 : decode cX7_askedRow 28 = .ok (.iconst 0, 1) := by decide +kernel
theorem dX7_askedRow_29 : decode cX7_askedRow 29 = .ok (.ireturn, 1) := by decide +kernel
theorem dX7_askedText_0 : decode cX7_askedText 0 = .ok (.iload_n 1, 1) := by decide +kernel
theorem dX7_askedText_1 : decode cX7_askedText 1 = .ok (.invokestatic 95, 3) := by decide +kernel
theorem dX7_askedText_4 : decode cX7_askedText 4 = .ok (.ifCond .ne 7, 3) := by decide +kernel
theorem dX7_askedText_7 : decode cX7_askedText 7 = .ok (.iconst (-1), 1) := by decide +kernel
theorem dX7_askedText_8 : decode cX7_askedText 8 = .ok (.goto 21, 3) := by decide +kernel
theorem dX7_askedText_11 : decode cX7_askedText 11 = .ok (.aload_n 0, 1) := by decide +kernel
theorem dX7_askedText_12 : decode cX7_askedText 12 = .ok (.getfield 22, 3) := by decide +kernel
theorem dX7_askedText_15 : decode cX7_askedText 15 = .ok (.iload_n 1, 1) := by decide +kernel
theorem dX7_askedText_16 : decode cX7_askedText 16 = .ok (.iaload, 1) := by decide +kernel
theorem dX7_askedText_17 : decode cX7_askedText 17 = .ok (.ifCond .ge 11, 3) := by decide +kernel
theorem dX7_askedText_20 : decode cX7_askedText 20 = .ok (.aload_n 0, 1) := by decide +kernel
theorem dX7_askedText_21 : decode cX7_askedText 21 = .ok (.iconst 1, 1) := by decide +kernel
theorem dX7_askedText_22 : decode cX7_askedText 22 = .ok (.invokevirtual 91, 3) := by decide +kernel
theorem dX7_askedText_25 : decode cX7_askedText 25 = .ok (.goto 4, 3) := by decide +kernel
theorem dX7_askedText_28 : decode cX7_askedText 28 = .ok (.iconst 0, 1) := by decide +kernel
theorem dX7_askedText_29 : decode cX7_askedText 29 = .ok (.ireturn, 1) := by decide +kernel
theorem dX7_rowAt_0 : decode cX7_rowAt 0 = .ok (.aload_n 0, 1) := by decide +kernel
theorem dX7_rowAt_1 : decode cX7_rowAt 1 = .ok (.getfield 16, 3) := by decide +kernel
theorem dX7_rowAt_4 : decode cX7_rowAt 4 = .ok (.bipush 40, 2) := by decide +kernel
theorem dX7_rowAt_6 : decode cX7_rowAt 6 = .ok (.iload_n 1, 1) := by decide +kernel
theorem dX7_rowAt_7 : decode cX7_rowAt 7 = .ok (.imul, 1) := by decide +kernel
theorem dX7_rowAt_8 : decode cX7_rowAt 8 = .ok (.iload_n 2, 1) := by decide +kernel
theorem dX7_rowAt_9 : decode cX7_rowAt 9 = .ok (.iadd, 1) := by decide +kernel
theorem dX7_rowAt_10 : decode cX7_rowAt 10 = .ok (.iaload, 1) := by decide +kernel
theorem dX7_rowAt_11 : decode cX7_rowAt 11 = .ok (.ireturn, 1) := by decide +kernel
theorem dX7_setRow_0 : decode cX7_setRow 0 = .ok (.aload_n 0, 1) := by decide +kernel
theorem dX7_setRow_1 : decode cX7_setRow 1 = .ok (.getfield 16, 3) := by decide +kernel
theorem dX7_setRow_4 : decode cX7_setRow 4 = .ok (.bipush 40, 2) := by decide +kernel
theorem dX7_setRow_6 : decode cX7_setRow 6 = .ok (.iload_n 1, 1) := by decide +kernel
theorem dX7_setRow_7 : decode cX7_setRow 7 = .ok (.imul, 1) := by decide +kernel
theorem dX7_setRow_8 : decode cX7_setRow 8 = .ok (.iload_n 2, 1) := by decide +kernel
theorem dX7_setRow_9 : decode cX7_setRow 9 = .ok (.iadd, 1) := by decide +kernel
theorem dX7_setRow_10 : decode cX7_setRow 10 = .ok (.iload_n 3, 1) := by decide +kernel
theorem dX7_setRow_11 : decode cX7_setRow 11 = .ok (.iastore, 1) := by decide +kernel
theorem dX7_setRow_12 : decode cX7_setRow 12 = .ok (.return_, 1) := by decide +kernel
theorem dX7_row_0 : decode cX7_row 0 = .ok (.iload_n 1, 1) := by decide +kernel
theorem dX7_row_1 : decode cX7_row 1 = .ok (.invokestatic 87, 3) := by decide +kernel
theorem dX7_row_4 : decode cX7_row 4 = .ok (.ifCond .eq 9, 3) := by decide +kernel
theorem dX7_row_7 : decode cX7_row 7 = .ok (.iload_n 2, 1) := by decide +kernel
theorem dX7_row_8 : decode cX7_row 8 = .ok (.bipush 40, 2) := by decide +kernel
theorem dX7_row_10 : decode cX7_row 10 = .ok (.if_icmp .le 5, 3) := by decide +kernel
theorem dX7_row_13 : decode cX7_row 13 = .ok (.iconst (-1), 1) := by decide +kernel
theorem dX7_row_14 : decode cX7_row 14 = .ok (.ireturn, 1) := by decide +kernel
theorem dX7_row_15 : decode cX7_row 15 = .ok (.iload_n 2, 1) := by decide +kernel
theorem dX7_row_16 : decode cX7_row 16 = .ok (.ifCond .ge 9, 3) := by decide +kernel
theorem dX7_row_19 : decode cX7_row 19 = .ok (.aload_n 0, 1) := by decide +kernel
theorem dX7_row_20 : decode cX7_row 20 = .ok (.iconst 5, 1) := by decide +kernel
theorem dX7_row_21 : decode cX7_row 21 = .ok (.invokevirtual 91, 3) := by decide +kernel
theorem dX7_row_24 : decode cX7_row 24 = .ok (.ireturn, 1) := by decide +kernel
theorem dX7_row_25 : decode cX7_row 25 = .ok (.aload_n 0, 1) := by decide +kernel
theorem dX7_row_26 : decode cX7_row 26 = .ok (.getfield 13, 3) := by decide +kernel
theorem dX7_row_29 : decode cX7_row 29 = .ok (.iload_n 1, 1) := by decide +kernel
theorem dX7_row_30 : decode cX7_row 30 = .ok (.iload_n 2, 1) := by decide +kernel
theorem dX7_row_31 : decode cX7_row 31 = .ok (.iastore, 1) := by decide +kernel
theorem dX7_row_32 : decode cX7_row 32 = .ok (.iconst 0, 1) := by decide +kernel
theorem dX7_row_33 : decode cX7_row 33 = .ok (.istore_n 3, 1) := by decide +kernel
theorem dX7_row_34 : decode cX7_row 34 = .ok (.iload_n 3, 1) := by decide +kernel
theorem dX7_row_35 : decode cX7_row 35 = .ok (.bipush 40, 2) := by decide +kernel
theorem dX7_row_37 : decode cX7_row 37 = .ok (.if_icmp .ge 16, 3) := by decide +kernel
theorem dX7_row_40 : decode cX7_row 40 = .ok (.aload_n 0, 1) := by decide +kernel
theorem dX7_row_41 : decode cX7_row 41 = .ok (.iload_n 1, 1) := by decide +kernel
theorem dX7_row_42 : decode cX7_row 42 = .ok (.iload_n 3, 1) := by decide +kernel
theorem dX7_row_43 : decode cX7_row 43 = .ok (.iconst 0, 1) := by decide +kernel
theorem dX7_row_44 : decode cX7_row 44 = .ok (.invokevirtual 98, 3) := by decide +kernel
theorem dX7_row_47 : decode cX7_row 47 = .ok (.iinc 3 1, 3) := by decide +kernel
theorem dX7_row_50 : decode cX7_row 50 = .ok (.goto (-16), 3) := by decide +kernel
theorem dX7_row_53 : decode cX7_row 53 = .ok (.iload_n 2, 1) := by decide +kernel
theorem dX7_row_54 : decode cX7_row 54 = .ok (.ireturn, 1) := by decide +kernel
theorem dX7_at_0 : decode cX7_at 0 = .ok (.aload_n 0, 1) := by decide +kernel
theorem dX7_at_1 : decode cX7_at 1 = .ok (.iload_n 1, 1) := by decide +kernel
theorem dX7_at_2 : decode cX7_at 2 = .ok (.invokevirtual 102, 3) := by decide +kernel
theorem dX7_at_5 : decode cX7_at 5 = .ok (.istore_n 3, 1) := by decide +kernel
theorem dX7_at_6 : decode cX7_at 6 = .ok (.iload_n 3, 1) := by decide +kernel
theorem dX7_at_7 : decode cX7_at 7 = .ok (.ifCond .ge 5, 3) := by decide +kernel
theorem dX7_at_10 : decode cX7_at 10 = .ok (.iload_n 3, 1) := by decide +kernel
theorem dX7_at_11 : decode cX7_at 11 = .ok (.ireturn, 1) := by decide +kernel
theorem dX7_at_12 : decode cX7_at 12 = .ok (.iload_n 2, 1) := by decide +kernel
theorem dX7_at_13 : decode cX7_at 13 = .ok (.iconst 0, 1) := by decide +kernel
theorem dX7_at_14 : decode cX7_at 14 = .ok (.aload_n 0, 1) := by decide +kernel
theorem dX7_at_15 : decode cX7_at 15 = .ok (.getfield 13, 3) := by decide +kernel
theorem dX7_at_18 : decode cX7_at 18 = .ok (.iload_n 1, 1) := by decide +kernel
theorem dX7_at_19 : decode cX7_at 19 = .ok (.iaload, 1) := by decide +kernel
theorem dX7_at_20 : decode cX7_at 20 = .ok (.iconst 1, 1) := by decide +kernel
theorem dX7_at_21 : decode cX7_at 21 = .ok (.isub, 1) := by decide +kernel
theorem dX7_at_22 : decode cX7_at 22 = .ok (.invokestatic 83, 3) := by decide +kernel
theorem dX7_at_25 : decode cX7_at 25 = .ok (.ifCond .eq 17, 3) := by decide +kernel
theorem dX7_at_28 : decode cX7_at 28 = .ok (.aload_n 0, 1) := by decide +kernel
theorem dX7_at_29 : decode cX7_at 29 = .ok (.aload_n 0, 1) := by decide +kernel
theorem dX7_at_30 : decode cX7_at 30 = .ok (.iload_n 1, 1) := by decide +kernel
theorem dX7_at_31 : decode cX7_at 31 = .ok (.iload_n 2, 1) := by decide +kernel
theorem dX7_at_32 : decode cX7_at 32 = .ok (.invokevirtual 105, 3) := by decide +kernel
theorem dX7_at_35 : decode cX7_at 35 = .ok (.iconst 1, 1) := by decide +kernel
theorem dX7_at_36 : decode cX7_at 36 = .ok (.invokevirtual 109, 3) := by decide +kernel
theorem dX7_at_39 : decode cX7_at 39 = .ok (.goto 8, 3) := by decide +kernel
theorem dX7_at_42 : decode cX7_at 42 = .ok (.aload_n 0, 1) := by decide +kernel
theorem dX7_at_43 : decode cX7_at 43 = .ok (.iconst 2, 1) := by decide +kernel
theorem dX7_at_44 : decode cX7_at 44 = .ok (.invokevirtual 91, 3) := by decide +kernel
theorem dX7_at_47 : decode cX7_at 47 = .ok (.ireturn, 1) := by decide +kernel
theorem dX7_lay_0 : decode cX7_lay 0 = .ok (.aload_n 0, 1) := by decide +kernel
theorem dX7_lay_1 : decode cX7_lay 1 = .ok (.iload_n 1, 1) := by decide +kernel
theorem dX7_lay_2 : decode cX7_lay 2 = .ok (.iload_n 2, 1) := by decide +kernel
theorem dX7_lay_3 : decode cX7_lay 3 = .ok (.invokevirtual 112, 3) := by decide +kernel
theorem dX7_lay_6 : decode cX7_lay 6 = .ok (.istore 4, 2) := by decide +kernel
theorem dX7_lay_8 : decode cX7_lay 8 = .ok (.iload 4, 2) := by decide +kernel
theorem dX7_lay_10 : decode cX7_lay 10 = .ok (.ifCond .ge 6, 3) := by decide +kernel
theorem dX7_lay_13 : decode cX7_lay 13 = .ok (.iload 4, 2) := by decide +kernel
theorem dX7_lay_15 : decode cX7_lay 15 = .ok (.ireturn, 1) := by decide +kernel
theorem dX7_lay_16 : decode cX7_lay 16 = .ok (.aload_n 0, 1) := by decide +kernel
theorem dX7_lay_17 : decode cX7_lay 17 = .ok (.iload_n 1, 1) := by decide +kernel
theorem dX7_lay_18 : decode cX7_lay 18 = .ok (.iload_n 2, 1) := by decide +kernel
theorem dX7_lay_19 : decode cX7_lay 19 = .ok (.iload_n 3, 1) := by decide +kernel
theorem dX7_lay_20 : decode cX7_lay 20 = .ok (.invokevirtual 98, 3) := by decide +kernel
theorem dX7_lay_23 : decode cX7_lay 23 = .ok (.iconst 1, 1) := by decide +kernel
theorem dX7_lay_24 : decode cX7_lay 24 = .ok (.ireturn, 1) := by decide +kernel
theorem dX7_tear_0 : decode cX7_tear 0 = .ok (.aload_n 0, 1) := by decide +kernel
theorem dX7_tear_1 : decode cX7_tear 1 = .ok (.iload_n 1, 1) := by decide +kernel
theorem dX7_tear_2 : decode cX7_tear 2 = .ok (.invokevirtual 102, 3) := by decide +kernel
theorem dX7_tear_5 : decode cX7_tear 5 = .ok (.istore_n 2, 1) := by decide +kernel
theorem dX7_tear_6 : decode cX7_tear 6 = .ok (.iload_n 2, 1) := by decide +kernel
theorem dX7_tear_7 : decode cX7_tear 7 = .ok (.ifCond .ge 5, 3) := by decide +kernel
theorem dX7_tear_10 : decode cX7_tear 10 = .ok (.iload_n 2, 1) := by decide +kernel
theorem dX7_tear_11 : decode cX7_tear 11 = .ok (.ireturn, 1) := by decide +kernel
theorem dX7_tear_12 : decode cX7_tear 12 = .ok (.aload_n 0, 1) := by decide +kernel
theorem dX7_tear_13 : decode cX7_tear 13 = .ok (.getfield 13, 3) := by decide +kernel
theorem dX7_tear_16 : decode cX7_tear 16 = .ok (.iload_n 1, 1) := by decide +kernel
theorem dX7_tear_17 : decode cX7_tear 17 = .ok (.bipush (-9), 2) := by decide +kernel
theorem dX7_tear_19 : decode cX7_tear 19 = .ok (.iastore, 1) := by decide +kernel
theorem dX7_tear_20 : decode cX7_tear 20 = .ok (.iconst 1, 1) := by decide +kernel
theorem dX7_tear_21 : decode cX7_tear 21 = .ok (.ireturn, 1) := by decide +kernel
theorem dX7_copy_0 : decode cX7_copy 0 = .ok (.iload_n 1, 1) := by decide +kernel
theorem dX7_copy_1 : decode cX7_copy 1 = .ok (.invokestatic 87, 3) := by decide +kernel
theorem dX7_copy_4 : decode cX7_copy 4 = .ok (.ifCond .eq 10, 3) := by decide +kernel
theorem dX7_copy_7 : decode cX7_copy 7 = .ok (.iload_n 3, 1) := by decide +kernel
theorem dX7_copy_8 : decode cX7_copy 8 = .ok (.invokestatic 87, 3) := by decide +kernel
theorem dX7_copy_11 : decode cX7_copy 11 = .ok (.ifCond .ne 5, 3) := by decide +kernel
theorem dX7_copy_14 : decode cX7_copy 14 = .ok (.iconst (-1), 1) := by decide +kernel
theorem dX7_copy_15 : decode cX7_copy 15 = .ok (.ireturn, 1) := by decide +kernel
theorem dX7_copy_16 : decode cX7_copy 16 = .ok (.iload 5, 2) := by decide +kernel
theorem dX7_copy_18 : decode cX7_copy 18 = .ok (.ifCond .ge 9, 3) := by decide +kernel
theorem dX7_copy_21 : decode cX7_copy 21 = .ok (.aload_n 0, 1) := by decide +kernel
theorem dX7_copy_22 : decode cX7_copy 22 = .ok (.iconst 5, 1) := by decide +kernel
theorem dX7_copy_23 : decode cX7_copy 23 = .ok (.invokevirtual 91, 3) := by decide +kernel
theorem dX7_copy_26 : decode cX7_copy 26 = .ok (.ireturn, 1) := by decide +kernel
theorem dX7_copy_27 : decode cX7_copy 27 = .ok (.aload_n 0, 1) := by decide +kernel
theorem dX7_copy_28 : decode cX7_copy 28 = .ok (.getfield 13, 3) := by decide +kernel
theorem dX7_copy_31 : decode cX7_copy 31 = .ok (.iload_n 1, 1) := by decide +kernel
theorem dX7_copy_32 : decode cX7_copy 32 = .ok (.iaload, 1) := by decide +kernel
theorem dX7_copy_33 : decode cX7_copy 33 = .ok (.ifCond .lt 12, 3) := by decide +kernel
theorem dX7_copy_36 : decode cX7_copy 36 = .ok (.aload_n 0, 1) := by decide +kernel
theorem dX7_copy_37 : decode cX7_copy 37 = .ok (.getfield 13, 3) := by decide +kernel
theorem dX7_copy_40 : decode cX7_copy 40 = .ok (.iload_n 3, 1) := by decide +kernel
theorem dX7_copy_41 : decode cX7_copy 41 = .ok (.iaload, 1) := by decide +kernel
theorem dX7_copy_42 : decode cX7_copy 42 = .ok (.ifCond .ge 9, 3) := by decide +kernel
theorem dX7_copy_45 : decode cX7_copy 45 = .ok (.aload_n 0, 1) := by decide +kernel
theorem dX7_copy_46 : decode cX7_copy 46 = .ok (.iconst 1, 1) := by decide +kernel
theorem dX7_copy_47 : decode cX7_copy 47 = .ok (.invokevirtual 91, 3) := by decide +kernel
theorem dX7_copy_50 : decode cX7_copy 50 = .ok (.ireturn, 1) := by decide +kernel
theorem dX7_copy_51 : decode cX7_copy 51 = .ok (.iload_n 2, 1) := by decide +kernel
theorem dX7_copy_52 : decode cX7_copy 52 = .ok (.ifCond .lt 43, 3) := by decide +kernel
theorem dX7_copy_55 : decode cX7_copy 55 = .ok (.iload 4, 2) := by decide +kernel
theorem dX7_copy_57 : decode cX7_copy 57 = .ok (.ifCond .lt 38, 3) := by decide +kernel
theorem dX7_copy_60 : decode cX7_copy 60 = .ok (.iload_n 2, 1) := by decide +kernel
theorem dX7_copy_61 : decode cX7_copy 61 = .ok (.i2l, 1) := by decide +kernel
theorem dX7_copy_62 : decode cX7_copy 62 = .ok (.iload 5, 2) := by decide +kernel
theorem dX7_copy_64 : decode cX7_copy 64 = .ok (.i2l, 1) := by decide +kernel
theorem dX7_copy_65 : decode cX7_copy 65 = .ok (.ladd, 1) := by decide +kernel
theorem dX7_copy_66 : decode cX7_copy 66 = .ok (.aload_n 0, 1) := by decide +kernel
theorem dX7_copy_67 : decode cX7_copy 67 = .ok (.getfield 13, 3) := by decide +kernel
theorem dX7_copy_70 : decode cX7_copy 70 = .ok (.iload_n 1, 1) := by decide +kernel
theorem dX7_copy_71 : decode cX7_copy 71 = .ok (.iaload, 1) := by decide +kernel
theorem dX7_copy_72 : decode cX7_copy 72 = .ok (.i2l, 1) := by decide +kernel
theorem dX7_copy_73 : decode cX7_copy 73 = .ok (.lcmp, 1) := by decide +kernel
theorem dX7_copy_74 : decode cX7_copy 74 = .ok (.ifCond .gt 21, 3) := by decide +kernel
theorem dX7_copy_77 : decode cX7_copy 77 = .ok (.iload 4, 2) := by decide +kernel
theorem dX7_copy_79 : decode cX7_copy 79 = .ok (.i2l, 1) := by decide +kernel
theorem dX7_copy_80 : decode cX7_copy 80 = .ok (.iload 5, 2) := by decide +kernel
theorem dX7_copy_82 : decode cX7_copy 82 = .ok (.i2l, 1) := by decide +kernel
theorem dX7_copy_83 : decode cX7_copy 83 = .ok (.ladd, 1) := by decide +kernel
theorem dX7_copy_84 : decode cX7_copy 84 = .ok (.aload_n 0, 1) := by decide +kernel
theorem dX7_copy_85 : decode cX7_copy 85 = .ok (.getfield 13, 3) := by decide +kernel
theorem dX7_copy_88 : decode cX7_copy 88 = .ok (.iload_n 3, 1) := by decide +kernel
theorem dX7_copy_89 : decode cX7_copy 89 = .ok (.iaload, 1) := by decide +kernel
theorem dX7_copy_90 : decode cX7_copy 90 = .ok (.i2l, 1) := by decide +kernel
theorem dX7_copy_91 : decode cX7_copy 91 = .ok (.lcmp, 1) := by decide +kernel
theorem dX7_copy_92 : decode cX7_copy 92 = .ok (.ifCond .le 9, 3) := by decide +kernel
theorem dX7_copy_95 : decode cX7_copy 95 = .ok (.aload_n 0, 1) := by decide +kernel
theorem dX7_copy_96 : decode cX7_copy 96 = .ok (.iconst 2, 1) := by decide +kernel
theorem dX7_copy_97 : decode cX7_copy 97 = .ok (.invokevirtual 91, 3) := by decide +kernel
theorem dX7_copy_100 : decode cX7_copy 100 = .ok (.ireturn, 1) := by decide +kernel
theorem dX7_copy_101 : decode cX7_copy 101 = .ok (.iconst 0, 1) := by decide +kernel
theorem dX7_copy_102 : decode cX7_copy 102 = .ok (.istore 6, 2) := by decide +kernel
theorem dX7_copy_104 : decode cX7_copy 104 = .ok (.iload 6, 2) := by decide +kernel
theorem dX7_copy_106 : decode cX7_copy 106 = .ok (.iload 5, 2) := by decide +kernel
theorem dX7_copy_108 : decode cX7_copy 108 = .ok (.if_icmp .ge 25, 3) := by decide +kernel
theorem dX7_copy_111 : decode cX7_copy 111 = .ok (.aload_n 0, 1) := by decide +kernel
theorem dX7_copy_112 : decode cX7_copy 112 = .ok (.getfield 19, 3) := by decide +kernel
theorem dX7_copy_115 : decode cX7_copy 115 = .ok (.iload 6, 2) := by decide +kernel
theorem dX7_copy_117 : decode cX7_copy 117 = .ok (.aload_n 0, 1) := by decide +kernel
theorem dX7_copy_118 : decode cX7_copy 118 = .ok (.iload_n 1, 1) := by decide +kernel
theorem dX7_copy_119 : decode cX7_copy 119 = .ok (.iload_n 2, 1) := by decide +kernel
theorem dX7_copy_120 : decode cX7_copy 120 = .ok (.iload 6, 2) := by decide +kernel
theorem dX7_copy_122 : decode cX7_copy 122 = .ok (.iadd, 1) := by decide +kernel
theorem dX7_copy_123 : decode cX7_copy 123 = .ok (.invokevirtual 105, 3) := by decide +kernel
theorem dX7_copy_126 : decode cX7_copy 126 = .ok (.iastore, 1) := by decide +kernel
theorem dX7_copy_127 : decode cX7_copy 127 = .ok (.iinc 6 1, 3) := by decide +kernel
theorem dX7_copy_130 : decode cX7_copy 130 = .ok (.goto (-26), 3) := by decide +kernel
theorem dX7_copy_133 : decode cX7_copy 133 = .ok (.iconst 0, 1) := by decide +kernel
theorem dX7_copy_134 : decode cX7_copy 134 = .ok (.istore 6, 2) := by decide +kernel
theorem dX7_copy_136 : decode cX7_copy 136 = .ok (.iload 6, 2) := by decide +kernel
theorem dX7_copy_138 : decode cX7_copy 138 = .ok (.iload 5, 2) := by decide +kernel
theorem dX7_copy_140 : decode cX7_copy 140 = .ok (.if_icmp .ge 26, 3) := by decide +kernel
theorem dX7_copy_143 : decode cX7_copy 143 = .ok (.aload_n 0, 1) := by decide +kernel
theorem dX7_copy_144 : decode cX7_copy 144 = .ok (.iload_n 3, 1) := by decide +kernel
theorem dX7_copy_145 : decode cX7_copy 145 = .ok (.iload 4, 2) := by decide +kernel
theorem dX7_copy_147 : decode cX7_copy 147 = .ok (.iload 6, 2) := by decide +kernel
theorem dX7_copy_149 : decode cX7_copy 149 = .ok (.iadd, 1) := by decide +kernel
theorem dX7_copy_150 : decode cX7_copy 150 = .ok (.aload_n 0, 1) := by decide +kernel
theorem dX7_copy_151 : decode cX7_copy 151 = .ok (.getfield 19, 3) := by decide +kernel
theorem dX7_copy_154 : decode cX7_copy 154 = .ok (.iload 6, 2) := by decide +kernel
theorem dX7_copy_156 : decode cX7_copy 156 = .ok (.iaload, 1) := by decide +kernel
theorem dX7_copy_157 : decode cX7_copy 157 = .ok (.invokevirtual 98, 3) := by decide +kernel
theorem dX7_copy_160 : decode cX7_copy 160 = .ok (.iinc 6 1, 3) := by decide +kernel
theorem dX7_copy_163 : decode cX7_copy 163 = .ok (.goto (-27), 3) := by decide +kernel
theorem dX7_copy_166 : decode cX7_copy 166 = .ok (.iconst 1, 1) := by decide +kernel
theorem dX7_copy_167 : decode cX7_copy 167 = .ok (.ireturn, 1) := by decide +kernel
theorem dX7_mean_0 : decode cX7_mean 0 = .ok (.aload_n 0, 1) := by decide +kernel
theorem dX7_mean_1 : decode cX7_mean 1 = .ok (.iload_n 1, 1) := by decide +kernel
theorem dX7_mean_2 : decode cX7_mean 2 = .ok (.invokevirtual 102, 3) := by decide +kernel
theorem dX7_mean_5 : decode cX7_mean 5 = .ok (.istore_n 2, 1) := by decide +kernel
theorem dX7_mean_6 : decode cX7_mean 6 = .ok (.iload_n 2, 1) := by decide +kernel
theorem dX7_mean_7 : decode cX7_mean 7 = .ok (.ifCond .ge 5, 3) := by decide +kernel
theorem dX7_mean_10 : decode cX7_mean 10 = .ok (.iload_n 2, 1) := by decide +kernel
theorem dX7_mean_11 : decode cX7_mean 11 = .ok (.ireturn, 1) := by decide +kernel
theorem dX7_mean_12 : decode cX7_mean 12 = .ok (.lconst 0, 1) := by decide +kernel
theorem dX7_mean_13 : decode cX7_mean 13 = .ok (.lstore_n 3, 1) := by decide +kernel
theorem dX7_mean_14 : decode cX7_mean 14 = .ok (.iconst 0, 1) := by decide +kernel
theorem dX7_mean_15 : decode cX7_mean 15 = .ok (.istore 5, 2) := by decide +kernel
theorem dX7_mean_17 : decode cX7_mean 17 = .ok (.iload 5, 2) := by decide +kernel
theorem dX7_mean_19 : decode cX7_mean 19 = .ok (.aload_n 0, 1) := by decide +kernel
theorem dX7_mean_20 : decode cX7_mean 20 = .ok (.getfield 13, 3) := by decide +kernel
theorem dX7_mean_23 : decode cX7_mean 23 = .ok (.iload_n 1, 1) := by decide +kernel
theorem dX7_mean_24 : decode cX7_mean 24 = .ok (.iaload, 1) := by decide +kernel
theorem dX7_mean_25 : decode cX7_mean 25 = .ok (.if_icmp .ge 20, 3) := by decide +kernel
theorem dX7_mean_28 : decode cX7_mean 28 = .ok (.lload_n 3, 1) := by decide +kernel
theorem dX7_mean_29 : decode cX7_mean 29 = .ok (.aload_n 0, 1) := by decide +kernel
theorem dX7_mean_30 : decode cX7_mean 30 = .ok (.iload_n 1, 1) := by decide +kernel
theorem dX7_mean_31 : decode cX7_mean 31 = .ok (.iload 5, 2) := by decide +kernel
theorem dX7_mean_33 : decode cX7_mean 33 = .ok (.invokevirtual 105, 3) := by decide +kernel
theorem dX7_mean_36 : decode cX7_mean 36 = .ok (.i2l, 1) := by decide +kernel
theorem dX7_mean_37 : decode cX7_mean 37 = .ok (.ladd, 1) := by decide +kernel
theorem dX7_mean_38 : decode cX7_mean 38 = .ok (.lstore_n 3, 1) := by decide +kernel
theorem dX7_mean_39 : decode cX7_mean 39 = .ok (.iinc 5 1, 3) := by decide +kernel
theorem dX7_mean_42 : decode cX7_mean 42 = .ok (.goto (-25), 3) := by decide +kernel
theorem dX7_mean_45 : decode cX7_mean 45 = .ok (.aload_n 0, 1) := by decide +kernel
theorem dX7_mean_46 : decode cX7_mean 46 = .ok (.getfield 13, 3) := by decide +kernel
theorem dX7_mean_49 : decode cX7_mean 49 = .ok (.iload_n 1, 1) := by decide +kernel
theorem dX7_mean_50 : decode cX7_mean 50 = .ok (.iaload, 1) := by decide +kernel
theorem dX7_mean_51 : decode cX7_mean 51 = .ok (.ifCond .ne 11, 3) := by decide +kernel
theorem dX7_mean_54 : decode cX7_mean 54 = .ok (.aload_n 0, 1) := by decide +kernel
theorem dX7_mean_55 : decode cX7_mean 55 = .ok (.iconst 4, 1) := by decide +kernel
theorem dX7_mean_56 : decode cX7_mean 56 = .ok (.invokevirtual 91, 3) := by decide +kernel
theorem dX7_mean_59 : decode cX7_mean 59 = .ok (.goto 18, 3) := by decide +kernel
theorem dX7_mean_62 : decode cX7_mean 62 = .ok (.aload_n 0, 1) := by decide +kernel
theorem dX7_mean_63 : decode cX7_mean 63 = .ok (.lload_n 3, 1) := by decide +kernel
theorem dX7_mean_64 : decode cX7_mean 64 = .ok (.aload_n 0, 1) := by decide +kernel
theorem dX7_mean_65 : decode cX7_mean 65 = .ok (.getfield 13, 3) := by decide +kernel
theorem dX7_mean_68 : decode cX7_mean 68 = .ok (.iload_n 1, 1) := by decide +kernel
theorem dX7_mean_69 : decode cX7_mean 69 = .ok (.iaload, 1) := by decide +kernel
theorem dX7_mean_70 : decode cX7_mean 70 = .ok (.i2l, 1) := by decide +kernel
theorem dX7_mean_71 : decode cX7_mean 71 = .ok (.ldiv, 1) := by decide +kernel
theorem dX7_mean_72 : decode cX7_mean 72 = .ok (.l2i, 1) := by decide +kernel
theorem dX7_mean_73 : decode cX7_mean 73 = .ok (.iconst 1, 1) := by decide +kernel
theorem dX7_mean_74 : decode cX7_mean 74 = .ok (.invokevirtual 109, 3) := by decide +kernel
theorem dX7_mean_77 : decode cX7_mean 77 = .ok (.ireturn, 1) := by decide +kernel
theorem dX7_text_0 : decode cX7_text 0 = .ok (.iload_n 1, 1) := by decide +kernel
theorem dX7_text_1 : decode cX7_text 1 = .ok (.invokestatic 95, 3) := by decide +kernel
theorem dX7_text_4 : decode cX7_text 4 = .ok (.ifCond .eq 9, 3) := by decide +kernel
theorem dX7_text_7 : decode cX7_text 7 = .ok (.iload_n 2, 1) := by decide +kernel
theorem dX7_text_8 : decode cX7_text 8 = .ok (.bipush 80, 2) := by decide +kernel
theorem dX7_text_10 : decode cX7_text 10 = .ok (.if_icmp .le 5, 3) := by decide +kernel
theorem dX7_text_13 : decode cX7_text 13 = .ok (.iconst (-1), 1) := by decide +kernel
theorem dX7_text_14 : decode cX7_text 14 = .ok (.ireturn, 1) := by decide +kernel
theorem dX7_text_15 : decode cX7_text 15 = .ok (.iload_n 2, 1) := by decide +kernel
theorem dX7_text_16 : decode cX7_text 16 = .ok (.ifCond .ge 9, 3) := by decide +kernel
theorem dX7_text_19 : decode cX7_text 19 = .ok (.aload_n 0, 1) := by decide +kernel
theorem dX7_text_20 : decode cX7_text 20 = .ok (.iconst 5, 1) := by decide +kernel
theorem dX7_text_21 : decode cX7_text 21 = .ok (.invokevirtual 91, 3) := by decide +kernel
theorem dX7_text_24 : decode cX7_text 24 = .ok (.ireturn, 1) := by decide +kernel
theorem dX7_text_25 : decode cX7_text 25 = .ok (.aload_n 0, 1) := by decide +kernel
theorem dX7_text_26 : decode cX7_text 26 = .ok (.getfield 22, 3) := by decide +kernel
theorem dX7_text_29 : decode cX7_text 29 = .ok (.iload_n 1, 1) := by decide +kernel
theorem dX7_text_30 : decode cX7_text 30 = .ok (.iload_n 2, 1) := by decide +kernel
theorem dX7_text_31 : decode cX7_text 31 = .ok (.iastore, 1) := by decide +kernel
theorem dX7_text_32 : decode cX7_text 32 = .ok (.iconst 0, 1) := by decide +kernel
theorem dX7_text_33 : decode cX7_text 33 = .ok (.istore_n 3, 1) := by decide +kernel
theorem dX7_text_34 : decode cX7_text 34 = .ok (.iload_n 3, 1) := by decide +kernel
theorem dX7_text_35 : decode cX7_text 35 = .ok (.bipush 80, 2) := by decide +kernel
theorem dX7_text_37 : decode cX7_text 37 = .ok (.if_icmp .ge 22, 3) := by decide +kernel
theorem dX7_text_40 : decode cX7_text 40 = .ok (.aload_n 0, 1) := by decide +kernel
theorem dX7_text_41 : decode cX7_text 41 = .ok (.getfield 25, 3) := by decide +kernel
theorem dX7_text_44 : decode cX7_text 44 = .ok (.bipush 80, 2) := by decide +kernel
theorem dX7_text_46 : decode cX7_text 46 = .ok (.iload_n 1, 1) := by decide +kernel
theorem dX7_text_47 : decode cX7_text 47 = .ok (.imul, 1) := by decide +kernel
theorem dX7_text_48 : decode cX7_text 48 = .ok (.iload_n 3, 1) := by decide +kernel
theorem dX7_text_49 : decode cX7_text 49 = .ok (.iadd, 1) := by decide +kernel
theorem dX7_text_50 : decode cX7_text 50 = .ok (.bipush 32, 2) := by decide +kernel
theorem dX7_text_52 : decode cX7_text 52 = .ok (.iastore, 1) := by decide +kernel
theorem dX7_text_53 : decode cX7_text 53 = .ok (.iinc 3 1, 3) := by decide +kernel
theorem dX7_text_56 : decode cX7_text 56 = .ok (.goto (-22), 3) := by decide +kernel
theorem dX7_text_59 : decode cX7_text 59 = .ok (.iload_n 2, 1) := by decide +kernel
theorem dX7_text_60 : decode cX7_text 60 = .ok (.ireturn, 1) := by decide +kernel
theorem dX7_put_0 : decode cX7_put 0 = .ok (.aload_n 0, 1) := by decide +kernel
theorem dX7_put_1 : decode cX7_put 1 = .ok (.iload_n 1, 1) := by decide +kernel
theorem dX7_put_2 : decode cX7_put 2 = .ok (.invokevirtual 115, 3) := by decide +kernel
theorem dX7_put_5 : decode cX7_put 5 = .ok (.istore 4, 2) := by decide +kernel
theorem dX7_put_7 : decode cX7_put 7 = .ok (.iload 4, 2) := by decide +kernel
theorem dX7_put_9 : decode cX7_put 9 = .ok (.ifCond .ge 6, 3) := by decide +kernel
theorem dX7_put_12 : decode cX7_put 12 = .ok (.iload 4, 2) := by decide +kernel
theorem dX7_put_14 : decode cX7_put 14 = .ok (.ireturn, 1) := by decide +kernel
theorem dX7_put_15 : decode cX7_put 15 = .ok (.iload_n 2, 1) := by decide +kernel
theorem dX7_put_16 : decode cX7_put 16 = .ok (.iconst 0, 1) := by decide +kernel
theorem dX7_put_17 : decode cX7_put 17 = .ok (.aload_n 0, 1) := by decide +kernel
theorem dX7_put_18 : decode cX7_put 18 = .ok (.getfield 22, 3) := by decide +kernel
theorem dX7_put_21 : decode cX7_put 21 = .ok (.iload_n 1, 1) := by decide +kernel
theorem dX7_put_22 : decode cX7_put 22 = .ok (.iaload, 1) := by decide +kernel
theorem dX7_put_23 : decode cX7_put 23 = .ok (.iconst 1, 1) := by decide +kernel
theorem dX7_put_24 : decode cX7_put 24 = .ok (.isub, 1) := by decide +kernel
theorem dX7_put_25 : decode cX7_put 25 = .ok (.invokestatic 83, 3) := by decide +kernel
theorem dX7_put_28 : decode cX7_put 28 = .ok (.ifCond .ne 9, 3) := by decide +kernel
theorem dX7_put_31 : decode cX7_put 31 = .ok (.aload_n 0, 1) := by decide +kernel
theorem dX7_put_32 : decode cX7_put 32 = .ok (.iconst 2, 1) := by decide +kernel
theorem dX7_put_33 : decode cX7_put 33 = .ok (.invokevirtual 91, 3) := by decide +kernel
theorem dX7_put_36 : decode cX7_put 36 = .ok (.ireturn, 1) := by decide +kernel
theorem dX7_put_37 : decode cX7_put 37 = .ok (.aload_n 0, 1) := by decide +kernel
theorem dX7_put_38 : decode cX7_put 38 = .ok (.getfield 25, 3) := by decide +kernel
theorem dX7_put_41 : decode cX7_put 41 = .ok (.bipush 80, 2) := by decide +kernel
theorem dX7_put_43 : decode cX7_put 43 = .ok (.iload_n 1, 1) := by decide +kernel
theorem dX7_put_44 : decode cX7_put 44 = .ok (.imul, 1) := by decide +kernel
theorem dX7_put_45 : decode cX7_put 45 = .ok (.iload_n 2, 1) := by decide +kernel
theorem dX7_put_46 : decode cX7_put 46 = .ok (.iadd, 1) := by decide +kernel
theorem dX7_put_47 : decode cX7_put 47 = .ok (.iaload, 1) := by decide +kernel
theorem dX7_put_48 : decode cX7_put 48 = .ok (.istore 5, 2) := by decide +kernel
theorem dX7_put_50 : decode cX7_put 50 = .ok (.aload_n 0, 1) := by decide +kernel
theorem dX7_put_51 : decode cX7_put 51 = .ok (.getfield 25, 3) := by decide +kernel
theorem dX7_put_54 : decode cX7_put 54 = .ok (.bipush 80, 2) := by decide +kernel
theorem dX7_put_56 : decode cX7_put 56 = .ok (.iload_n 1, 1) := by decide +kernel
theorem dX7_put_57 : decode cX7_put 57 = .ok (.imul, 1) := by decide +kernel
theorem dX7_put_58 : decode cX7_put 58 = .ok (.iload_n 2, 1) := by decide +kernel
theorem dX7_put_59 : decode cX7_put 59 = .ok (.iadd, 1) := by decide +kernel
theorem dX7_put_60 : decode cX7_put 60 = .ok (.iload_n 3, 1) := by decide +kernel
theorem dX7_put_61 : decode cX7_put 61 = .ok (.i2b, 1) := by decide +kernel
theorem dX7_put_62 : decode cX7_put 62 = .ok (.iastore, 1) := by decide +kernel
theorem dX7_put_63 : decode cX7_put 63 = .ok (.iload 5, 2) := by decide +kernel
theorem dX7_put_65 : decode cX7_put 65 = .ok (.sipush 1000, 3) := by decide +kernel
theorem dX7_put_68 : decode cX7_put 68 = .ok (.iadd, 1) := by decide +kernel
theorem dX7_put_69 : decode cX7_put 69 = .ok (.ireturn, 1) := by decide +kernel
theorem dX7_here_0 : decode cX7_here 0 = .ok (.aload_n 0, 1) := by decide +kernel
theorem dX7_here_1 : decode cX7_here 1 = .ok (.getfield 118, 3) := by decide +kernel
theorem dX7_here_4 : decode cX7_here 4 = .ok (.aload_n 0, 1) := by decide +kernel
theorem dX7_here_5 : decode cX7_here 5 = .ok (.getfield 22, 3) := by decide +kernel
theorem dX7_here_8 : decode cX7_here 8 = .ok (.iload_n 1, 1) := by decide +kernel
theorem dX7_here_9 : decode cX7_here 9 = .ok (.iaload, 1) := by decide +kernel
theorem dX7_here_10 : decode cX7_here 10 = .ok (.if_icmp .ge 20, 3) := by decide +kernel
theorem dX7_here_13 : decode cX7_here 13 = .ok (.aload_n 0, 1) := by decide +kernel
theorem dX7_here_14 : decode cX7_here 14 = .ok (.getfield 25, 3) := by decide +kernel
theorem dX7_here_17 : decode cX7_here 17 = .ok (.bipush 80, 2) := by decide +kernel
theorem dX7_here_19 : decode cX7_here 19 = .ok (.iload_n 1, 1) := by decide +kernel
theorem dX7_here_20 : decode cX7_here 20 = .ok (.imul, 1) := by decide +kernel
theorem dX7_here_21 : decode cX7_here 21 = .ok (.aload_n 0, 1) := by decide +kernel
theorem dX7_here_22 : decode cX7_here 22 = .ok (.getfield 118, 3) := by decide +kernel
theorem dX7_here_25 : decode cX7_here 25 = .ok (.iadd, 1) := by decide +kernel
theorem dX7_here_26 : decode cX7_here 26 = .ok (.iaload, 1) := by decide +kernel
theorem dX7_here_27 : decode cX7_here 27 = .ok (.goto 5, 3) := by decide +kernel
theorem dX7_here_30 : decode cX7_here 30 = .ok (.bipush (-9), 2) := by decide +kernel
theorem dX7_here_32 : decode cX7_here 32 = .ok (.ireturn, 1) := by decide +kernel
theorem dX7_kindOf_0 : decode cX7_kindOf 0 = .ok (.iload_n 0, 1) := by decide +kernel
theorem dX7_kindOf_1 : decode cX7_kindOf 1 = .ok (.bipush 98, 2) := by decide +kernel
theorem dX7_kindOf_3 : decode cX7_kindOf 3 = .ok (.if_icmp .ne 7, 3) := by decide +kernel
theorem dX7_kindOf_6 : decode cX7_kindOf 6 = .ok (.iconst 0, 1) := by decide +kernel
theorem dX7_kindOf_7 : decode cX7_kindOf 7 = .ok (.goto 55, 3) := by decide +kernel
theorem dX7_kindOf_10 : decode cX7_kindOf 10 = .ok (.iload_n 0, 1) := by decide +kernel
theorem dX7_kindOf_11 : decode cX7_kindOf 11 = .ok (.bipush 114, 2) := by decide +kernel
theorem dX7_kindOf_13 : decode cX7_kindOf 13 = .ok (.if_icmp .ne 7, 3) := by decide +kernel
theorem dX7_kindOf_16 : decode cX7_kindOf 16 = .ok (.iconst 1, 1) := by decide +kernel
theorem dX7_kindOf_17 : decode cX7_kindOf 17 = .ok (.goto 45, 3) := by decide +kernel
theorem dX7_kindOf_20 : decode cX7_kindOf 20 = .ok (.iload_n 0, 1) := by decide +kernel
theorem dX7_kindOf_21 : decode cX7_kindOf 21 = .ok (.bipush 100, 2) := by decide +kernel
theorem dX7_kindOf_23 : decode cX7_kindOf 23 = .ok (.if_icmp .ne 7, 3) := by decide +kernel
theorem dX7_kindOf_26 : decode cX7_kindOf 26 = .ok (.iconst 2, 1) := by decide +kernel
theorem dX7_kindOf_27 : decode cX7_kindOf 27 = .ok (.goto 35, 3) := by decide +kernel
theorem dX7_kindOf_30 : decode cX7_kindOf 30 = .ok (.iload_n 0, 1) := by decide +kernel
theorem dX7_kindOf_31 : decode cX7_kindOf 31 = .ok (.bipush 99, 2) := by decide +kernel
theorem dX7_kindOf_33 : decode cX7_kindOf 33 = .ok (.if_icmp .ne 7, 3) := by decide +kernel
theorem dX7_kindOf_36 : decode cX7_kindOf 36 = .ok (.iconst 3, 1) := by decide +kernel
theorem dX7_kindOf_37 : decode cX7_kindOf 37 = .ok (.goto 25, 3) := by decide +kernel
theorem dX7_kindOf_40 : decode cX7_kindOf 40 = .ok (.iload_n 0, 1) := by decide +kernel
theorem dX7_kindOf_41 : decode cX7_kindOf 41 = .ok (.bipush 116, 2) := by decide +kernel
theorem dX7_kindOf_43 : decode cX7_kindOf 43 = .ok (.if_icmp .ne 7, 3) := by decide +kernel
theorem dX7_kindOf_46 : decode cX7_kindOf 46 = .ok (.iconst 4, 1) := by decide +kernel
theorem dX7_kindOf_47 : decode cX7_kindOf 47 = .ok (.goto 15, 3) := by decide +kernel
theorem dX7_kindOf_50 : decode cX7_kindOf 50 = .ok (.iload_n 0, 1) := by decide +kernel
theorem dX7_kindOf_51 : decode cX7_kindOf 51 = .ok (.bipush 112, 2) := by decide +kernel
theorem dX7_kindOf_53 : decode cX7_kindOf 53 = .ok (.if_icmp .ne 7, 3) := by decide +kernel
theorem dX7_kindOf_56 : decode cX7_kindOf 56 = .ok (.iconst 5, 1) := by decide +kernel
theorem dX7_kindOf_57 : decode cX7_kindOf 57 = .ok (.goto 5, 3) := by decide +kernel
theorem dX7_kindOf_60 : decode cX7_kindOf 60 = .ok (.bipush (-9), 2) := by decide +kernel
theorem dX7_kindOf_62 : decode cX7_kindOf 62 = .ok (.ireturn, 1) := by decide +kernel
theorem dX7_isHere_0 : decode cX7_isHere 0 = .ok (.aload_n 0, 1) := by decide +kernel
theorem dX7_isHere_1 : decode cX7_isHere 1 = .ok (.iload_n 1, 1) := by decide +kernel
theorem dX7_isHere_2 : decode cX7_isHere 2 = .ok (.invokevirtual 121, 3) := by decide +kernel
theorem dX7_isHere_5 : decode cX7_isHere 5 = .ok (.iload_n 2, 1) := by decide +kernel
theorem dX7_isHere_6 : decode cX7_isHere 6 = .ok (.iload_n 3, 1) := by decide +kernel
theorem dX7_isHere_7 : decode cX7_isHere 7 = .ok (.invokestatic 83, 3) := by decide +kernel
theorem dX7_isHere_10 : decode cX7_isHere 10 = .ok (.ireturn, 1) := by decide +kernel
theorem dX7_readsHead_0 : decode cX7_readsHead 0 = .ok (.aload_n 0, 1) := by decide +kernel
theorem dX7_readsHead_1 : decode cX7_readsHead 1 = .ok (.iload_n 1, 1) := by decide +kernel
theorem dX7_readsHead_2 : decode cX7_readsHead 2 = .ok (.invokevirtual 121, 3) := by decide +kernel
theorem dX7_readsHead_5 : decode cX7_readsHead 5 = .ok (.bipush 103, 2) := by decide +kernel
theorem dX7_readsHead_7 : decode cX7_readsHead 7 = .ok (.if_icmp .eq 5, 3) := by decide +kernel
theorem dX7_readsHead_10 : decode cX7_readsHead 10 = .ok (.iconst 0, 1) := by decide +kernel
theorem dX7_readsHead_11 : decode cX7_readsHead 11 = .ok (.ireturn, 1) := by decide +kernel
theorem dX7_readsHead_12 : decode cX7_readsHead 12 = .ok (.aload_n 0, 1) := by decide +kernel
theorem dX7_readsHead_13 : decode cX7_readsHead 13 = .ok (.dup, 1) := by decide +kernel
theorem dX7_readsHead_14 : decode cX7_readsHead 14 = .ok (.getfield 118, 3) := by decide +kernel
theorem dX7_readsHead_17 : decode cX7_readsHead 17 = .ok (.iconst 1, 1) := by decide +kernel
theorem dX7_readsHead_18 : decode cX7_readsHead 18 = .ok (.iadd, 1) := by decide +kernel
theorem dX7_readsHead_19 : decode cX7_readsHead 19 = .ok (.putfield 118, 3) := by decide +kernel
theorem dX7_readsHead_22 : decode cX7_readsHead 22 = .ok (.aload_n 0, 1) := by decide +kernel
theorem dX7_readsHead_23 : decode cX7_readsHead 23 = .ok (.iload_n 1, 1) := by decide +kernel
theorem dX7_readsHead_24 : decode cX7_readsHead 24 = .ok (.bipush 49, 2) := by decide +kernel
theorem dX7_readsHead_26 : decode cX7_readsHead 26 = .ok (.bipush 52, 2) := by decide +kernel
theorem dX7_readsHead_28 : decode cX7_readsHead 28 = .ok (.invokevirtual 124, 3) := by decide +kernel
theorem dX7_readsHead_31 : decode cX7_readsHead 31 = .ok (.ifCond .ne 5, 3) := by decide +kernel
theorem dX7_readsHead_34 : decode cX7_readsHead 34 = .ok (.iconst 0, 1) := by decide +kernel
theorem dX7_readsHead_35 : decode cX7_readsHead 35 = .ok (.ireturn, 1) := by decide +kernel
theorem dX7_readsHead_36 : decode cX7_readsHead 36 = .ok (.aload_n 0, 1) := by decide +kernel
theorem dX7_readsHead_37 : decode cX7_readsHead 37 = .ok (.aload_n 0, 1) := by decide +kernel
theorem dX7_readsHead_38 : decode cX7_readsHead 38 = .ok (.iload_n 1, 1) := by decide +kernel
theorem dX7_readsHead_39 : decode cX7_readsHead 39 = .ok (.invokevirtual 121, 3) := by decide +kernel
theorem dX7_readsHead_42 : decode cX7_readsHead 42 = .ok (.bipush 48, 2) := by decide +kernel
theorem dX7_readsHead_44 : decode cX7_readsHead 44 = .ok (.isub, 1) := by decide +kernel
theorem dX7_readsHead_45 : decode cX7_readsHead 45 = .ok (.putfield 127, 3) := by decide +kernel
theorem dX7_readsHead_48 : decode cX7_readsHead 48 = .ok (.aload_n 0, 1) := by decide +kernel
theorem dX7_readsHead_49 : decode cX7_readsHead 49 = .ok (.dup, 1) := by decide +kernel
theorem dX7_readsHead_50 : decode cX7_readsHead 50 = .ok (.getfield 118, 3) := by decide +kernel
theorem dX7_readsHead_53 : decode cX7_readsHead 53 = .ok (.iconst 1, 1) := by decide +kernel
theorem dX7_readsHead_54 : decode cX7_readsHead 54 = .ok (.iadd, 1) := by decide +kernel
theorem dX7_readsHead_55 : decode cX7_readsHead 55 = .ok (.putfield 118, 3) := by decide +kernel
theorem dX7_readsHead_58 : decode cX7_readsHead 58 = .ok (.iconst 1, 1) := by decide +kernel
theorem dX7_readsHead_59 : decode cX7_readsHead 59 = .ok (.ireturn, 1) := by decide +kernel
theorem dX7_readsStall_0 : decode cX7_readsStall 0 = .ok (.aload_n 0, 1) := by decide +kernel
theorem dX7_readsStall_1 : decode cX7_readsStall 1 = .ok (.getfield 130, 3) := by decide +kernel
theorem dX7_readsStall_4 : decode cX7_readsStall 4 = .ok (.ifCond .gt 12, 3) := by decide +kernel
theorem dX7_readsStall_7 : decode cX7_readsStall 7 = .ok (.aload_n 0, 1) := by decide +kernel
theorem dX7_readsStall_8 : decode cX7_readsStall 8 = .ok (.getfield 133, 3) := by decide +kernel
theorem dX7_readsStall_11 : decode cX7_readsStall 11 = .ok (.bipush 6, 2) := by decide +kernel
theorem dX7_readsStall_13 : decode cX7_readsStall 13 = .ok (.if_icmp .ne 5, 3) := by decide +kernel
theorem dX7_readsStall_16 : decode cX7_readsStall 16 = .ok (.iconst 0, 1) := by decide +kernel
theorem dX7_readsStall_17 : decode cX7_readsStall 17 = .ok (.ireturn, 1) := by decide +kernel
theorem dX7_readsStall_18 : decode cX7_readsStall 18 = .ok (.bipush 6, 2) := by decide +kernel
theorem dX7_readsStall_20 : decode cX7_readsStall 20 = .ok (.aload_n 0, 1) := by decide +kernel
theorem dX7_readsStall_21 : decode cX7_readsStall 21 = .ok (.getfield 133, 3) := by decide +kernel
theorem dX7_readsStall_24 : decode cX7_readsStall 24 = .ok (.iadd, 1) := by decide +kernel
theorem dX7_readsStall_25 : decode cX7_readsStall 25 = .ok (.istore_n 2, 1) := by decide +kernel
theorem dX7_readsStall_26 : decode cX7_readsStall 26 = .ok (.aload_n 0, 1) := by decide +kernel
theorem dX7_readsStall_27 : decode cX7_readsStall 27 = .ok (.dup, 1) := by decide +kernel
theorem dX7_readsStall_28 : decode cX7_readsStall 28 = .ok (.getfield 118, 3) := by decide +kernel
theorem dX7_readsStall_31 : decode cX7_readsStall 31 = .ok (.iconst 1, 1) := by decide +kernel
theorem dX7_readsStall_32 : decode cX7_readsStall 32 = .ok (.iadd, 1) := by decide +kernel
theorem dX7_readsStall_33 : decode cX7_readsStall 33 = .ok (.putfield 118, 3) := by decide +kernel
theorem dX7_readsStall_36 : decode cX7_readsStall 36 = .ok (.aload_n 0, 1) := by decide +kernel
theorem dX7_readsStall_37 : decode cX7_readsStall 37 = .ok (.iload_n 1, 1) := by decide +kernel
theorem dX7_readsStall_38 : decode cX7_readsStall 38 = .ok (.bipush 65, 2) := by decide +kernel
theorem dX7_readsStall_40 : decode cX7_readsStall 40 = .ok (.bipush 84, 2) := by decide +kernel
theorem dX7_readsStall_42 : decode cX7_readsStall 42 = .ok (.invokevirtual 124, 3) := by decide +kernel
theorem dX7_readsStall_45 : decode cX7_readsStall 45 = .ok (.ifCond .ne 5, 3) := by decide +kernel
theorem dX7_readsStall_48 : decode cX7_readsStall 48 = .ok (.iconst 0, 1) := by decide +kernel
theorem dX7_readsStall_49 : decode cX7_readsStall 49 = .ok (.ireturn, 1) := by decide +kernel
theorem dX7_readsStall_50 : decode cX7_readsStall 50 = .ok (.aload_n 0, 1) := by decide +kernel
theorem dX7_readsStall_51 : decode cX7_readsStall 51 = .ok (.getfield 40, 3) := by decide +kernel
theorem dX7_readsStall_54 : decode cX7_readsStall 54 = .ok (.iload_n 2, 1) := by decide +kernel
theorem dX7_readsStall_55 : decode cX7_readsStall 55 = .ok (.aload_n 0, 1) := by decide +kernel
theorem dX7_readsStall_56 : decode cX7_readsStall 56 = .ok (.iload_n 1, 1) := by decide +kernel
theorem dX7_readsStall_57 : decode cX7_readsStall 57 = .ok (.invokevirtual 121, 3) := by decide +kernel
theorem dX7_readsStall_60 : decode cX7_readsStall 60 = .ok (.bipush 65, 2) := by decide +kernel
theorem dX7_readsStall_62 : decode cX7_readsStall 62 = .ok (.isub, 1) := by decide +kernel
theorem dX7_readsStall_63 : decode cX7_readsStall 63 = .ok (.iastore, 1) := by decide +kernel
theorem dX7_readsStall_64 : decode cX7_readsStall 64 = .ok (.aload_n 0, 1) := by decide +kernel
theorem dX7_readsStall_65 : decode cX7_readsStall 65 = .ok (.dup, 1) := by decide +kernel
theorem dX7_readsStall_66 : decode cX7_readsStall 66 = .ok (.getfield 118, 3) := by decide +kernel
theorem dX7_readsStall_69 : decode cX7_readsStall 69 = .ok (.iconst 1, 1) := by decide +kernel
theorem dX7_readsStall_70 : decode cX7_readsStall 70 = .ok (.iadd, 1) := by decide +kernel
theorem dX7_readsStall_71 : decode cX7_readsStall 71 = .ok (.putfield 118, 3) := by decide +kernel
theorem dX7_readsStall_74 : decode cX7_readsStall 74 = .ok (.aload_n 0, 1) := by decide +kernel
theorem dX7_readsStall_75 : decode cX7_readsStall 75 = .ok (.iload_n 1, 1) := by decide +kernel
theorem dX7_readsStall_76 : decode cX7_readsStall 76 = .ok (.bipush 48, 2) := by decide +kernel
theorem dX7_readsStall_78 : decode cX7_readsStall 78 = .ok (.bipush 51, 2) := by decide +kernel
theorem dX7_readsStall_80 : decode cX7_readsStall 80 = .ok (.invokevirtual 124, 3) := by decide +kernel
theorem dX7_readsStall_83 : decode cX7_readsStall 83 = .ok (.ifCond .ne 5, 3) := by decide +kernel
theorem dX7_readsStall_86 : decode cX7_readsStall 86 = .ok (.iconst 0, 1) := by decide +kernel
theorem dX7_readsStall_87 : decode cX7_readsStall 87 = .ok (.ireturn, 1) := by decide +kernel
theorem dX7_readsStall_88 : decode cX7_readsStall 88 = .ok (.aload_n 0, 1) := by decide +kernel
theorem dX7_readsStall_89 : decode cX7_readsStall 89 = .ok (.getfield 43, 3) := by decide +kernel
theorem dX7_readsStall_92 : decode cX7_readsStall 92 = .ok (.iload_n 2, 1) := by decide +kernel
theorem dX7_readsStall_93 : decode cX7_readsStall 93 = .ok (.aload_n 0, 1) := by decide +kernel
theorem dX7_readsStall_94 : decode cX7_readsStall 94 = .ok (.iload_n 1, 1) := by decide +kernel
theorem dX7_readsStall_95 : decode cX7_readsStall 95 = .ok (.invokevirtual 121, 3) := by decide +kernel
theorem dX7_readsStall_98 : decode cX7_readsStall 98 = .ok (.bipush 48, 2) := by decide +kernel
theorem dX7_readsStall_100 : decode cX7_readsStall 100 = .ok (.isub, 1) := by decide +kernel
theorem dX7_readsStall_101 : decode cX7_readsStall 101 = .ok (.iastore, 1) := by decide +kernel
theorem dX7_readsStall_102 : decode cX7_readsStall 102 = .ok (.aload_n 0, 1) := by decide +kernel
theorem dX7_readsStall_103 : decode cX7_readsStall 103 = .ok (.dup, 1) := by decide +kernel
theorem dX7_readsStall_104 : decode cX7_readsStall 104 = .ok (.getfield 118, 3) := by decide +kernel
theorem dX7_readsStall_107 : decode cX7_readsStall 107 = .ok (.iconst 1, 1) := by decide +kernel
theorem dX7_readsStall_108 : decode cX7_readsStall 108 = .ok (.iadd, 1) := by decide +kernel
theorem dX7_readsStall_109 : decode cX7_readsStall 109 = .ok (.putfield 118, 3) := by decide +kernel
theorem dX7_readsStall_112 : decode cX7_readsStall 112 = .ok (.aload_n 0, 1) := by decide +kernel
theorem dX7_readsStall_113 : decode cX7_readsStall 113 = .ok (.iload_n 1, 1) := by decide +kernel
theorem dX7_readsStall_114 : decode cX7_readsStall 114 = .ok (.bipush 48, 2) := by decide +kernel
theorem dX7_readsStall_116 : decode cX7_readsStall 116 = .ok (.bipush 57, 2) := by decide +kernel
theorem dX7_readsStall_118 : decode cX7_readsStall 118 = .ok (.invokevirtual 124, 3) := by decide +kernel
theorem dX7_readsStall_121 : decode cX7_readsStall 121 = .ok (.ifCond .ne 5, 3) := by decide +kernel
theorem dX7_readsStall_124 : decode cX7_readsStall 124 = .ok (.iconst 0, 1) := by decide +kernel
theorem dX7_readsStall_125 : decode cX7_readsStall 125 = .ok (.ireturn, 1) := by decide +kernel
theorem dX7_readsStall_126 : decode cX7_readsStall 126 = .ok (.aload_n 0, 1) := by decide +kernel
theorem dX7_readsStall_127 : decode cX7_readsStall 127 = .ok (.getfield 46, 3) := by decide +kernel
theorem dX7_readsStall_130 : decode cX7_readsStall 130 = .ok (.iload_n 2, 1) := by decide +kernel
theorem dX7_readsStall_131 : decode cX7_readsStall 131 = .ok (.aload_n 0, 1) := by decide +kernel
theorem dX7_readsStall_132 : decode cX7_readsStall 132 = .ok (.iload_n 1, 1) := by decide +kernel
theorem dX7_readsStall_133 : decode cX7_readsStall 133 = .ok (.invokevirtual 121, 3) := by decide +kernel
theorem dX7_readsStall_136 : decode cX7_readsStall 136 = .ok (.bipush 48, 2) := by decide +kernel
theorem dX7_readsStall_138 : decode cX7_readsStall 138 = .ok (.isub, 1) := by decide +kernel
theorem dX7_readsStall_139 : decode cX7_readsStall 139 = .ok (.iastore, 1) := by decide +kernel
theorem dX7_readsStall_140 : decode cX7_readsStall 140 = .ok (.aload_n 0, 1) := by decide +kernel
theorem dX7_readsStall_141 : decode cX7_readsStall 141 = .ok (.dup, 1) := by decide +kernel
theorem dX7_readsStall_142 : decode cX7_readsStall 142 = .ok (.getfield 118, 3) := by decide +kernel
theorem dX7_readsStall_145 : decode cX7_readsStall 145 = .ok (.iconst 1, 1) := by decide +kernel
theorem dX7_readsStall_146 : decode cX7_readsStall 146 = .ok (.iadd, 1) := by decide +kernel
theorem dX7_readsStall_147 : decode cX7_readsStall 147 = .ok (.putfield 118, 3) := by decide +kernel
theorem dX7_readsStall_150 : decode cX7_readsStall 150 = .ok (.aload_n 0, 1) := by decide +kernel
theorem dX7_readsStall_151 : decode cX7_readsStall 151 = .ok (.dup, 1) := by decide +kernel
theorem dX7_readsStall_152 : decode cX7_readsStall 152 = .ok (.getfield 133, 3) := by decide +kernel
theorem dX7_readsStall_155 : decode cX7_readsStall 155 = .ok (.iconst 1, 1) := by decide +kernel
theorem dX7_readsStall_156 : decode cX7_readsStall 156 = .ok (.iadd, 1) := by decide +kernel
theorem dX7_readsStall_157 : decode cX7_readsStall 157 = .ok (.putfield 133, 3) := by decide +kernel
theorem dX7_readsStall_160 : decode cX7_readsStall 160 = .ok (.iconst 1, 1) := by decide +kernel
theorem dX7_readsStall_161 : decode cX7_readsStall 161 = .ok (.ireturn, 1) := by decide +kernel
theorem dX7_readsBuyer_0 : decode cX7_readsBuyer 0 = .ok (.aload_n 0, 1) := by decide +kernel
theorem dX7_readsBuyer_1 : decode cX7_readsBuyer 1 = .ok (.iload_n 1, 1) := by decide +kernel
theorem dX7_readsBuyer_2 : decode cX7_readsBuyer 2 = .ok (.invokevirtual 121, 3) := by decide +kernel
theorem dX7_readsBuyer_5 : decode cX7_readsBuyer 5 = .ok (.invokestatic 136, 3) := by decide +kernel
theorem dX7_readsBuyer_8 : decode cX7_readsBuyer 8 = .ok (.istore_n 2, 1) := by decide +kernel
theorem dX7_readsBuyer_9 : decode cX7_readsBuyer 9 = .ok (.iload_n 2, 1) := by decide +kernel
theorem dX7_readsBuyer_10 : decode cX7_readsBuyer 10 = .ok (.bipush (-9), 2) := by decide +kernel
theorem dX7_readsBuyer_12 : decode cX7_readsBuyer 12 = .ok (.if_icmp .eq 12, 3) := by decide +kernel
theorem dX7_readsBuyer_15 : decode cX7_readsBuyer 15 = .ok (.aload_n 0, 1) := by decide +kernel
theorem dX7_readsBuyer_16 : decode cX7_readsBuyer 16 = .ok (.getfield 130, 3) := by decide +kernel
theorem dX7_readsBuyer_19 : decode cX7_readsBuyer 19 = .ok (.bipush 6, 2) := by decide +kernel
theorem dX7_readsBuyer_21 : decode cX7_readsBuyer 21 = .ok (.if_icmp .ne 5, 3) := by decide +kernel
theorem dX7_readsBuyer_24 : decode cX7_readsBuyer 24 = .ok (.iconst 0, 1) := by decide +kernel
theorem dX7_readsBuyer_25 : decode cX7_readsBuyer 25 = .ok (.ireturn, 1) := by decide +kernel
theorem dX7_readsBuyer_26 : decode cX7_readsBuyer 26 = .ok (.bipush 6, 2) := by decide +kernel
theorem dX7_readsBuyer_28 : decode cX7_readsBuyer 28 = .ok (.aload_n 0, 1) := by decide +kernel
theorem dX7_readsBuyer_29 : decode cX7_readsBuyer 29 = .ok (.getfield 130, 3) := by decide +kernel
theorem dX7_readsBuyer_32 : decode cX7_readsBuyer 32 = .ok (.iadd, 1) := by decide +kernel
theorem dX7_readsBuyer_33 : decode cX7_readsBuyer 33 = .ok (.istore_n 3, 1) := by decide +kernel
theorem dX7_readsBuyer_34 : decode cX7_readsBuyer 34 = .ok (.aload_n 0, 1) := by decide +kernel
theorem dX7_readsBuyer_35 : decode cX7_readsBuyer 35 = .ok (.getfield 28, 3) := by decide +kernel
theorem dX7_readsBuyer_38 : decode cX7_readsBuyer 38 = .ok (.iload_n 3, 1) := by decide +kernel
theorem dX7_readsBuyer_39 : decode cX7_readsBuyer 39 = .ok (.iload_n 2, 1) := by decide +kernel
theorem dX7_readsBuyer_40 : decode cX7_readsBuyer 40 = .ok (.iastore, 1) := by decide +kernel
theorem dX7_readsBuyer_41 : decode cX7_readsBuyer 41 = .ok (.aload_n 0, 1) := by decide +kernel
theorem dX7_readsBuyer_42 : decode cX7_readsBuyer 42 = .ok (.dup, 1) := by decide +kernel
theorem dX7_readsBuyer_43 : decode cX7_readsBuyer 43 = .ok (.getfield 118, 3) := by decide +kernel
theorem dX7_readsBuyer_46 : decode cX7_readsBuyer 46 = .ok (.iconst 1, 1) := by decide +kernel
theorem dX7_readsBuyer_47 : decode cX7_readsBuyer 47 = .ok (.iadd, 1) := by decide +kernel
theorem dX7_readsBuyer_48 : decode cX7_readsBuyer 48 = .ok (.putfield 118, 3) := by decide +kernel
theorem dX7_readsBuyer_51 : decode cX7_readsBuyer 51 = .ok (.aload_n 0, 1) := by decide +kernel
theorem dX7_readsBuyer_52 : decode cX7_readsBuyer 52 = .ok (.iload_n 1, 1) := by decide +kernel
theorem dX7_readsBuyer_53 : decode cX7_readsBuyer 53 = .ok (.bipush 65, 2) := by decide +kernel
theorem dX7_readsBuyer_55 : decode cX7_readsBuyer 55 = .ok (.bipush 84, 2) := by decide +kernel
theorem dX7_readsBuyer_57 : decode cX7_readsBuyer 57 = .ok (.invokevirtual 124, 3) := by decide +kernel
theorem dX7_readsBuyer_60 : decode cX7_readsBuyer 60 = .ok (.ifCond .ne 5, 3) := by decide +kernel
theorem dX7_readsBuyer_63 : decode cX7_readsBuyer 63 = .ok (.iconst 0, 1) := by decide +kernel
theorem dX7_readsBuyer_64 : decode cX7_readsBuyer 64 = .ok (.ireturn, 1) := by decide +kernel
theorem dX7_readsBuyer_65 : decode cX7_readsBuyer 65 = .ok (.aload_n 0, 1) := by decide +kernel
theorem dX7_readsBuyer_66 : decode cX7_readsBuyer 66 = .ok (.iload_n 1, 1) := by decide +kernel
theorem dX7_readsBuyer_67 : decode cX7_readsBuyer 67 = .ok (.invokevirtual 121, 3) := by decide +kernel
theorem dX7_readsBuyer_70 : decode cX7_readsBuyer 70 = .ok (.bipush 65, 2) := by decide +kernel
theorem dX7_readsBuyer_72 : decode cX7_readsBuyer 72 = .ok (.isub, 1) := by decide +kernel
theorem dX7_readsBuyer_73 : decode cX7_readsBuyer 73 = .ok (.istore 4, 2) := by decide +kernel
theorem dX7_readsBuyer_75 : decode cX7_readsBuyer 75 = .ok (.aload_n 0, 1) := by decide +kernel
theorem dX7_readsBuyer_76 : decode cX7_readsBuyer 76 = .ok (.getfield 130, 3) := by decide +kernel
theorem dX7_readsBuyer_79 : decode cX7_readsBuyer 79 = .ok (.ifCond .ne 7, 3) := by decide +kernel
theorem dX7_readsBuyer_82 : decode cX7_readsBuyer 82 = .ok (.iconst 1, 1) := by decide +kernel
theorem dX7_readsBuyer_83 : decode cX7_readsBuyer 83 = .ok (.goto 14, 3) := by decide +kernel
theorem dX7_readsBuyer_86 : decode cX7_readsBuyer 86 = .ok (.iload 4, 2) := by decide +kernel
theorem dX7_readsBuyer_88 : decode cX7_readsBuyer 88 = .ok (.aload_n 0, 1) := by decide +kernel
theorem dX7_readsBuyer_89 : decode cX7_readsBuyer 89 = .ok (.getfield 31, 3) := by decide +kernel
theorem dX7_readsBuyer_92 : decode cX7_readsBuyer 92 = .ok (.iload_n 3, 1) := by decide +kernel
theorem dX7_readsBuyer_93 : decode cX7_readsBuyer 93 = .ok (.iconst 1, 1) := by decide +kernel
theorem dX7_readsBuyer_94 : decode cX7_readsBuyer 94 = .ok (.isub, 1) := by decide +kernel
theorem dX7_readsBuyer_95 : decode cX7_readsBuyer 95 = .ok (.iaload, 1) := by decide +kernel
theorem dX7_readsBuyer_96 : decode cX7_readsBuyer 96 = .ok (.isub, 1) := by decide +kernel
theorem dX7_readsBuyer_97 : decode cX7_readsBuyer 97 = .ok (.istore 5, 2) := by decide +kernel
theorem dX7_readsBuyer_99 : decode cX7_readsBuyer 99 = .ok (.aload_n 0, 1) := by decide +kernel
theorem dX7_readsBuyer_100 : decode cX7_readsBuyer 100 = .ok (.getfield 130, 3) := by decide +kernel
theorem dX7_readsBuyer_103 : decode cX7_readsBuyer 103 = .ok (.ifCond .le 24, 3) := by decide +kernel
theorem dX7_readsBuyer_106 : decode cX7_readsBuyer 106 = .ok (.iload_n 2, 1) := by decide +kernel
theorem dX7_readsBuyer_107 : decode cX7_readsBuyer 107 = .ok (.iconst 4, 1) := by decide +kernel
theorem dX7_readsBuyer_108 : decode cX7_readsBuyer 108 = .ok (.if_icmp .eq 15, 3) := by decide +kernel
theorem dX7_readsBuyer_111 : decode cX7_readsBuyer 111 = .ok (.aload_n 0, 1) := by decide +kernel
theorem dX7_readsBuyer_112 : decode cX7_readsBuyer 112 = .ok (.getfield 28, 3) := by decide +kernel
theorem dX7_readsBuyer_115 : decode cX7_readsBuyer 115 = .ok (.iload_n 3, 1) := by decide +kernel
theorem dX7_readsBuyer_116 : decode cX7_readsBuyer 116 = .ok (.iconst 1, 1) := by decide +kernel
theorem dX7_readsBuyer_117 : decode cX7_readsBuyer 117 = .ok (.isub, 1) := by decide +kernel
theorem dX7_readsBuyer_118 : decode cX7_readsBuyer 118 = .ok (.iaload, 1) := by decide +kernel
theorem dX7_readsBuyer_119 : decode cX7_readsBuyer 119 = .ok (.iconst 4, 1) := by decide +kernel
theorem dX7_readsBuyer_120 : decode cX7_readsBuyer 120 = .ok (.if_icmp .ne 7, 3) := by decide +kernel
theorem dX7_readsBuyer_123 : decode cX7_readsBuyer 123 = .ok (.iconst 1, 1) := by decide +kernel
theorem dX7_readsBuyer_124 : decode cX7_readsBuyer 124 = .ok (.goto 4, 3) := by decide +kernel
theorem dX7_readsBuyer_127 : decode cX7_readsBuyer 127 = .ok (.iconst 0, 1) := by decide +kernel
theorem dX7_readsBuyer_128 : decode cX7_readsBuyer 128 = .ok (.istore 6, 2) := by decide +kernel
theorem dX7_readsBuyer_130 : decode cX7_readsBuyer 130 = .ok (.iload 5, 2) := by decide +kernel
theorem dX7_readsBuyer_132 : decode cX7_readsBuyer 132 = .ok (.iconst 1, 1) := by decide +kernel
theorem dX7_readsBuyer_133 : decode cX7_readsBuyer 133 = .ok (.if_icmp .lt 17, 3) := by decide +kernel
theorem dX7_readsBuyer_136 : decode cX7_readsBuyer 136 = .ok (.iload 5, 2) := by decide +kernel
theorem dX7_readsBuyer_138 : decode cX7_readsBuyer 138 = .ok (.aload_n 0, 1) := by decide +kernel
theorem dX7_readsBuyer_139 : decode cX7_readsBuyer 139 = .ok (.getfield 127, 3) := by decide +kernel
theorem dX7_readsBuyer_142 : decode cX7_readsBuyer 142 = .ok (.if_icmp .le 10, 3) := by decide +kernel
theorem dX7_readsBuyer_145 : decode cX7_readsBuyer 145 = .ok (.iload 6, 2) := by decide +kernel
theorem dX7_readsBuyer_147 : decode cX7_readsBuyer 147 = .ok (.ifCond .ne 5, 3) := by decide +kernel
theorem dX7_readsBuyer_150 : decode cX7_readsBuyer 150 = .ok (.iconst 0, 1) := by decide +kernel
theorem dX7_readsBuyer_151 : decode cX7_readsBuyer 151 = .ok (.ireturn, 1) := by decide +kernel
theorem dX7_readsBuyer_152 : decode cX7_readsBuyer 152 = .ok (.aload_n 0, 1) := by decide +kernel
theorem dX7_readsBuyer_153 : decode cX7_readsBuyer 153 = .ok (.getfield 31, 3) := by decide +kernel
theorem dX7_readsBuyer_156 : decode cX7_readsBuyer 156 = .ok (.iload_n 3, 1) := by decide +kernel
theorem dX7_readsBuyer_157 : decode cX7_readsBuyer 157 = .ok (.iload 4, 2) := by decide +kernel
theorem dX7_readsBuyer_159 : decode cX7_readsBuyer 159 = .ok (.iastore, 1) := by decide +kernel
theorem dX7_readsBuyer_160 : decode cX7_readsBuyer 160 = .ok (.aload_n 0, 1) := by decide +kernel
theorem dX7_readsBuyer_161 : decode cX7_readsBuyer 161 = .ok (.dup, 1) := by decide +kernel
theorem dX7_readsBuyer_162 : decode cX7_readsBuyer 162 = .ok (.getfield 118, 3) := by decide +kernel
theorem dX7_readsBuyer_165 : decode cX7_readsBuyer 165 = .ok (.iconst 1, 1) := by decide +kernel
theorem dX7_readsBuyer_166 : decode cX7_readsBuyer 166 = .ok (.iadd, 1) := by decide +kernel
theorem dX7_readsBuyer_167 : decode cX7_readsBuyer 167 = .ok (.putfield 118, 3) := by decide +kernel
theorem dX7_readsBuyer_170 : decode cX7_readsBuyer 170 = .ok (.aload_n 0, 1) := by decide +kernel
theorem dX7_readsBuyer_171 : decode cX7_readsBuyer 171 = .ok (.iload_n 1, 1) := by decide +kernel
theorem dX7_readsBuyer_172 : decode cX7_readsBuyer 172 = .ok (.invokevirtual 121, 3) := by decide +kernel
theorem dX7_readsBuyer_175 : decode cX7_readsBuyer 175 = .ok (.bipush 45, 2) := by decide +kernel
theorem dX7_readsBuyer_177 : decode cX7_readsBuyer 177 = .ok (.if_icmp .eq 17, 3) := by decide +kernel
theorem dX7_readsBuyer_180 : decode cX7_readsBuyer 180 = .ok (.aload_n 0, 1) := by decide +kernel
theorem dX7_readsBuyer_181 : decode cX7_readsBuyer 181 = .ok (.iload_n 1, 1) := by decide +kernel
theorem dX7_readsBuyer_182 : decode cX7_readsBuyer 182 = .ok (.bipush 48, 2) := by decide +kernel
theorem dX7_readsBuyer_184 : decode cX7_readsBuyer 184 = .ok (.bipush 51, 2) := by decide +kernel
theorem dX7_readsBuyer_186 : decode cX7_readsBuyer 186 = .ok (.invokevirtual 124, 3) := by decide +kernel
theorem dX7_readsBuyer_189 : decode cX7_readsBuyer 189 = .ok (.ifCond .ne 5, 3) := by decide +kernel
theorem dX7_readsBuyer_192 : decode cX7_readsBuyer 192 = .ok (.iconst 0, 1) := by decide +kernel
theorem dX7_readsBuyer_193 : decode cX7_readsBuyer 193 = .ok (.ireturn, 1) := by decide +kernel
theorem dX7_readsBuyer_194 : decode cX7_readsBuyer 194 = .ok (.aload_n 0, 1) := by decide +kernel
theorem dX7_readsBuyer_195 : decode cX7_readsBuyer 195 = .ok (.getfield 34, 3) := by decide +kernel
theorem dX7_readsBuyer_198 : decode cX7_readsBuyer 198 = .ok (.iload_n 3, 1) := by decide +kernel
theorem dX7_readsBuyer_199 : decode cX7_readsBuyer 199 = .ok (.aload_n 0, 1) := by decide +kernel
theorem dX7_readsBuyer_200 : decode cX7_readsBuyer 200 = .ok (.iload_n 1, 1) := by decide +kernel
theorem dX7_readsBuyer_201 : decode cX7_readsBuyer 201 = .ok (.invokevirtual 121, 3) := by decide +kernel
theorem dX7_readsBuyer_204 : decode cX7_readsBuyer 204 = .ok (.bipush 45, 2) := by decide +kernel
theorem dX7_readsBuyer_206 : decode cX7_readsBuyer 206 = .ok (.if_icmp .ne 7, 3) := by decide +kernel
theorem dX7_readsBuyer_209 : decode cX7_readsBuyer 209 = .ok (.iconst 4, 1) := by decide +kernel
theorem dX7_readsBuyer_210 : decode cX7_readsBuyer 210 = .ok (.goto 11, 3) := by decide +kernel
theorem dX7_readsBuyer_213 : decode cX7_readsBuyer 213 = .ok (.aload_n 0, 1) := by decide +kernel
theorem dX7_readsBuyer_214 : decode cX7_readsBuyer 214 = .ok (.iload_n 1, 1) := by decide +kernel
theorem dX7_readsBuyer_215 : decode cX7_readsBuyer 215 = .ok (.invokevirtual 121, 3) := by decide +kernel
theorem dX7_readsBuyer_218 : decode cX7_readsBuyer 218 = .ok (.bipush 48, 2) := by decide +kernel
theorem dX7_readsBuyer_220 : decode cX7_readsBuyer 220 = .ok (.isub, 1) := by decide +kernel
theorem dX7_readsBuyer_221 : decode cX7_readsBuyer 221 = .ok (.iastore, 1) := by decide +kernel
theorem dX7_readsBuyer_222 : decode cX7_readsBuyer 222 = .ok (.aload_n 0, 1) := by decide +kernel
theorem dX7_readsBuyer_223 : decode cX7_readsBuyer 223 = .ok (.dup, 1) := by decide +kernel
theorem dX7_readsBuyer_224 : decode cX7_readsBuyer 224 = .ok (.getfield 118, 3) := by decide +kernel
theorem dX7_readsBuyer_227 : decode cX7_readsBuyer 227 = .ok (.iconst 1, 1) := by decide +kernel
theorem dX7_readsBuyer_228 : decode cX7_readsBuyer 228 = .ok (.iadd, 1) := by decide +kernel
theorem dX7_readsBuyer_229 : decode cX7_readsBuyer 229 = .ok (.putfield 118, 3) := by decide +kernel
theorem dX7_readsBuyer_232 : decode cX7_readsBuyer 232 = .ok (.aload_n 0, 1) := by decide +kernel
theorem dX7_readsBuyer_233 : decode cX7_readsBuyer 233 = .ok (.dup, 1) := by decide +kernel
theorem dX7_readsBuyer_234 : decode cX7_readsBuyer 234 = .ok (.getfield 130, 3) := by decide +kernel
theorem dX7_readsBuyer_237 : decode cX7_readsBuyer 237 = .ok (.iconst 1, 1) := by decide +kernel
theorem dX7_readsBuyer_238 : decode cX7_readsBuyer 238 = .ok (.iadd, 1) := by decide +kernel
theorem dX7_readsBuyer_239 : decode cX7_readsBuyer 239 = .ok (.putfield 130, 3) := by decide +kernel
theorem dX7_readsBuyer_242 : decode cX7_readsBuyer 242 = .ok (.iconst 1, 1) := by decide +kernel
theorem dX7_readsBuyer_243 : decode cX7_readsBuyer 243 = .ok (.ireturn, 1) := by decide +kernel
theorem dX7_goesOn_0 : decode cX7_goesOn 0 = .ok (.aload_n 0, 1) := by decide +kernel
theorem dX7_goesOn_1 : decode cX7_goesOn 1 = .ok (.iconst 0, 1) := by decide +kernel
theorem dX7_goesOn_2 : decode cX7_goesOn 2 = .ok (.putfield 118, 3) := by decide +kernel
theorem dX7_goesOn_5 : decode cX7_goesOn 5 = .ok (.aload_n 0, 1) := by decide +kernel
theorem dX7_goesOn_6 : decode cX7_goesOn 6 = .ok (.iconst 0, 1) := by decide +kernel
theorem dX7_goesOn_7 : decode cX7_goesOn 7 = .ok (.putfield 127, 3) := by decide +kernel
theorem dX7_goesOn_10 : decode cX7_goesOn 10 = .ok (.aload_n 0, 1) := by decide +kernel
theorem dX7_goesOn_11 : decode cX7_goesOn 11 = .ok (.iconst 0, 1) := by decide +kernel
theorem dX7_goesOn_12 : decode cX7_goesOn 12 = .ok (.putfield 130, 3) := by decide +kernel
theorem dX7_goesOn_15 : decode cX7_goesOn 15 = .ok (.aload_n 0, 1) := by decide +kernel
theorem dX7_goesOn_16 : decode cX7_goesOn 16 = .ok (.iconst 0, 1) := by decide +kernel
theorem dX7_goesOn_17 : decode cX7_goesOn 17 = .ok (.putfield 133, 3) := by decide +kernel
theorem dX7_goesOn_20 : decode cX7_goesOn 20 = .ok (.aload_n 0, 1) := by decide +kernel
theorem dX7_goesOn_21 : decode cX7_goesOn 21 = .ok (.getfield 118, 3) := by decide +kernel
theorem dX7_goesOn_24 : decode cX7_goesOn 24 = .ok (.aload_n 0, 1) := by decide +kernel
theorem dX7_goesOn_25 : decode cX7_goesOn 25 = .ok (.getfield 22, 3) := by decide +kernel
theorem dX7_goesOn_28 : decode cX7_goesOn 28 = .ok (.iload_n 1, 1) := by decide +kernel
theorem dX7_goesOn_29 : decode cX7_goesOn 29 = .ok (.iaload, 1) := by decide +kernel
theorem dX7_goesOn_30 : decode cX7_goesOn 30 = .ok (.if_icmp .ge 78, 3) := by decide +kernel
theorem dX7_goesOn_33 : decode cX7_goesOn 33 = .ok (.aload_n 0, 1) := by decide +kernel
theorem dX7_goesOn_34 : decode cX7_goesOn 34 = .ok (.iload_n 1, 1) := by decide +kernel
theorem dX7_goesOn_35 : decode cX7_goesOn 35 = .ok (.invokevirtual 121, 3) := by decide +kernel
theorem dX7_goesOn_38 : decode cX7_goesOn 38 = .ok (.bipush 32, 2) := by decide +kernel
theorem dX7_goesOn_40 : decode cX7_goesOn 40 = .ok (.if_icmp .ne 16, 3) := by decide +kernel
theorem dX7_goesOn_43 : decode cX7_goesOn 43 = .ok (.aload_n 0, 1) := by decide +kernel
theorem dX7_goesOn_44 : decode cX7_goesOn 44 = .ok (.dup, 1) := by decide +kernel
theorem dX7_goesOn_45 : decode cX7_goesOn 45 = .ok (.getfield 118, 3) := by decide +kernel
theorem dX7_goesOn_48 : decode cX7_goesOn 48 = .ok (.iconst 1, 1) := by decide +kernel
theorem dX7_goesOn_49 : decode cX7_goesOn 49 = .ok (.iadd, 1) := by decide +kernel
theorem dX7_goesOn_50 : decode cX7_goesOn 50 = .ok (.putfield 118, 3) := by decide +kernel
theorem dX7_goesOn_53 : decode cX7_goesOn 53 = .ok (.goto (-33), 3) := by decide +kernel
theorem dX7_goesOn_56 : decode cX7_goesOn 56 = .ok (.aload_n 0, 1) := by decide +kernel
theorem dX7_goesOn_57 : decode cX7_goesOn 57 = .ok (.getfield 127, 3) := by decide +kernel
theorem dX7_goesOn_60 : decode cX7_goesOn 60 = .ok (.ifCond .ne 14, 3) := by decide +kernel
theorem dX7_goesOn_63 : decode cX7_goesOn 63 = .ok (.aload_n 0, 1) := by decide +kernel
theorem dX7_goesOn_64 : decode cX7_goesOn 64 = .ok (.iload_n 1, 1) := by decide +kernel
theorem dX7_goesOn_65 : decode cX7_goesOn 65 = .ok (.invokevirtual 139, 3) := by decide +kernel
theorem dX7_goesOn_68 : decode cX7_goesOn 68 = .ok (.ifCond .ne (-48), 3) := by decide +kernel
theorem dX7_goesOn_71 : decode cX7_goesOn 71 = .ok (.goto 32, 3) := by decide +kernel
theorem dX7_goesOn_74 : decode cX7_goesOn 74 = .ok (.aload_n 0, 1) := by decide +kernel
theorem dX7_goesOn_75 : decode cX7_goesOn 75 = .ok (.iload_n 1, 1) := by decide +kernel
theorem dX7_goesOn_76 : decode cX7_goesOn 76 = .ok (.invokevirtual 121, 3) := by decide +kernel
theorem dX7_goesOn_79 : decode cX7_goesOn 79 = .ok (.bipush 111, 2) := by decide +kernel
theorem dX7_goesOn_81 : decode cX7_goesOn 81 = .ok (.if_icmp .ne 14, 3) := by decide +kernel
theorem dX7_goesOn_84 : decode cX7_goesOn 84 = .ok (.aload_n 0, 1) := by decide +kernel
theorem dX7_goesOn_85 : decode cX7_goesOn 85 = .ok (.iload_n 1, 1) := by decide +kernel
theorem dX7_goesOn_86 : decode cX7_goesOn 86 = .ok (.invokevirtual 142, 3) := by decide +kernel
theorem dX7_goesOn_89 : decode cX7_goesOn 89 = .ok (.ifCond .ne (-69), 3) := by decide +kernel
theorem dX7_goesOn_92 : decode cX7_goesOn 92 = .ok (.goto 11, 3) := by decide +kernel
theorem dX7_goesOn_95 : decode cX7_goesOn 95 = .ok (.aload_n 0, 1) := by decide +kernel
theorem dX7_goesOn_96 : decode cX7_goesOn 96 = .ok (.iload_n 1, 1) := by decide +kernel
theorem dX7_goesOn_97 : decode cX7_goesOn 97 = .ok (.invokevirtual 145, 3) := by decide +kernel
theorem dX7_goesOn_100 : decode cX7_goesOn 100 = .ok (.ifCond .ne (-80), 3) := by decide +kernel
theorem dX7_goesOn_103 : decode cX7_goesOn 103 = .ok (.aload_n 0, 1) := by decide +kernel
theorem dX7_goesOn_104 : decode cX7_goesOn 104 = .ok (.getfield 118, 3) := by decide +kernel
theorem dX7_goesOn_107 : decode cX7_goesOn 107 = .ok (.ireturn, 1) := by decide +kernel
theorem dX7_goesOn_108 : decode cX7_goesOn 108 = .ok (.aload_n 0, 1) := by decide +kernel
theorem dX7_goesOn_109 : decode cX7_goesOn 109 = .ok (.getfield 127, 3) := by decide +kernel
theorem dX7_goesOn_112 : decode cX7_goesOn 112 = .ok (.ifCond .ne 12, 3) := by decide +kernel
theorem dX7_goesOn_115 : decode cX7_goesOn 115 = .ok (.aload_n 0, 1) := by decide +kernel
theorem dX7_goesOn_116 : decode cX7_goesOn 116 = .ok (.getfield 22, 3) := by decide +kernel
theorem dX7_goesOn_119 : decode cX7_goesOn 119 = .ok (.iload_n 1, 1) := by decide +kernel
theorem dX7_goesOn_120 : decode cX7_goesOn 120 = .ok (.iaload, 1) := by decide +kernel
theorem dX7_goesOn_121 : decode cX7_goesOn 121 = .ok (.goto 5, 3) := by decide +kernel
theorem dX7_goesOn_124 : decode cX7_goesOn 124 = .ok (.bipush (-9), 2) := by decide +kernel
theorem dX7_goesOn_126 : decode cX7_goesOn 126 = .ok (.ireturn, 1) := by decide +kernel
theorem dX7_fault_0 : decode cX7_fault 0 = .ok (.aload_n 0, 1) := by decide +kernel
theorem dX7_fault_1 : decode cX7_fault 1 = .ok (.iload_n 1, 1) := by decide +kernel
theorem dX7_fault_2 : decode cX7_fault 2 = .ok (.invokevirtual 115, 3) := by decide +kernel
theorem dX7_fault_5 : decode cX7_fault 5 = .ok (.istore_n 2, 1) := by decide +kernel
theorem dX7_fault_6 : decode cX7_fault 6 = .ok (.iload_n 2, 1) := by decide +kernel
theorem dX7_fault_7 : decode cX7_fault 7 = .ok (.ifCond .ge 7, 3) := by decide +kernel
theorem dX7_fault_10 : decode cX7_fault 10 = .ok (.iload_n 2, 1) := by decide +kernel
theorem dX7_fault_11 : decode cX7_fault 11 = .ok (.goto 8, 3) := by decide +kernel
theorem dX7_fault_14 : decode cX7_fault 14 = .ok (.aload_n 0, 1) := by decide +kernel
theorem dX7_fault_15 : decode cX7_fault 15 = .ok (.iload_n 1, 1) := by decide +kernel
theorem dX7_fault_16 : decode cX7_fault 16 = .ok (.invokevirtual 148, 3) := by decide +kernel
theorem dX7_fault_19 : decode cX7_fault 19 = .ok (.ireturn, 1) := by decide +kernel
theorem dX7_market_0 : decode cX7_market 0 = .ok (.aload_n 0, 1) := by decide +kernel
theorem dX7_market_1 : decode cX7_market 1 = .ok (.iload_n 1, 1) := by decide +kernel
theorem dX7_market_2 : decode cX7_market 2 = .ok (.invokevirtual 115, 3) := by decide +kernel
theorem dX7_market_5 : decode cX7_market 5 = .ok (.istore_n 2, 1) := by decide +kernel
theorem dX7_market_6 : decode cX7_market 6 = .ok (.iload_n 2, 1) := by decide +kernel
theorem dX7_market_7 : decode cX7_market 7 = .ok (.ifCond .ge 5, 3) := by decide +kernel
theorem dX7_market_10 : decode cX7_market 10 = .ok (.iload_n 2, 1) := by decide +kernel
theorem dX7_market_11 : decode cX7_market 11 = .ok (.ireturn, 1) := by decide +kernel
theorem dX7_market_12 : decode cX7_market 12 = .ok (.aload_n 0, 1) := by decide +kernel
theorem dX7_market_13 : decode cX7_market 13 = .ok (.iload_n 1, 1) := by decide +kernel
theorem dX7_market_14 : decode cX7_market 14 = .ok (.invokevirtual 148, 3) := by decide +kernel
theorem dX7_market_17 : decode cX7_market 17 = .ok (.bipush (-9), 2) := by decide +kernel
theorem dX7_market_19 : decode cX7_market 19 = .ok (.if_icmp .eq 6, 3) := by decide +kernel
theorem dX7_market_22 : decode cX7_market 22 = .ok (.bipush (-4), 2) := by decide +kernel
theorem dX7_market_24 : decode cX7_market 24 = .ok (.ireturn, 1) := by decide +kernel
theorem dX7_market_25 : decode cX7_market 25 = .ok (.aload_n 0, 1) := by decide +kernel
theorem dX7_market_26 : decode cX7_market 26 = .ok (.aload_n 0, 1) := by decide +kernel
theorem dX7_market_27 : decode cX7_market 27 = .ok (.getfield 130, 3) := by decide +kernel
theorem dX7_market_30 : decode cX7_market 30 = .ok (.putfield 151, 3) := by decide +kernel
theorem dX7_market_33 : decode cX7_market 33 = .ok (.aload_n 0, 1) := by decide +kernel
theorem dX7_market_34 : decode cX7_market 34 = .ok (.aload_n 0, 1) := by decide +kernel
theorem dX7_market_35 : decode cX7_market 35 = .ok (.getfield 133, 3) := by decide +kernel
theorem dX7_market_38 : decode cX7_market 38 = .ok (.putfield 154, 3) := by decide +kernel
theorem dX7_market_41 : decode cX7_market 41 = .ok (.aload_n 0, 1) := by decide +kernel
theorem dX7_market_42 : decode cX7_market 42 = .ok (.aload_n 0, 1) := by decide +kernel
theorem dX7_market_43 : decode cX7_market 43 = .ok (.getfield 127, 3) := by decide +kernel
theorem dX7_market_46 : decode cX7_market 46 = .ok (.putfield 157, 3) := by decide +kernel
theorem dX7_market_49 : decode cX7_market 49 = .ok (.iconst 0, 1) := by decide +kernel
theorem dX7_market_50 : decode cX7_market 50 = .ok (.istore_n 3, 1) := by decide +kernel
theorem dX7_market_51 : decode cX7_market 51 = .ok (.iload_n 3, 1) := by decide +kernel
theorem dX7_market_52 : decode cX7_market 52 = .ok (.bipush 6, 2) := by decide +kernel
theorem dX7_market_54 : decode cX7_market 54 = .ok (.if_icmp .ge 113, 3) := by decide +kernel
theorem dX7_market_57 : decode cX7_market 57 = .ok (.aload_n 0, 1) := by decide +kernel
theorem dX7_market_58 : decode cX7_market 58 = .ok (.getfield 28, 3) := by decide +kernel
theorem dX7_market_61 : decode cX7_market 61 = .ok (.iload_n 3, 1) := by decide +kernel
theorem dX7_market_62 : decode cX7_market 62 = .ok (.aload_n 0, 1) := by decide +kernel
theorem dX7_market_63 : decode cX7_market 63 = .ok (.getfield 28, 3) := by decide +kernel
theorem dX7_market_66 : decode cX7_market 66 = .ok (.bipush 6, 2) := by decide +kernel
theorem dX7_market_68 : decode cX7_market 68 = .ok (.iload_n 3, 1) := by decide +kernel
theorem dX7_market_69 : decode cX7_market 69 = .ok (.iadd, 1) := by decide +kernel
theorem dX7_market_70 : decode cX7_market 70 = .ok (.iaload, 1) := by decide +kernel
theorem dX7_market_71 : decode cX7_market 71 = .ok (.iastore, 1) := by decide +kernel
theorem dX7_market_72 : decode cX7_market 72 = .ok (.aload_n 0, 1) := by decide +kernel
theorem dX7_market_73 : decode cX7_market 73 = .ok (.getfield 31, 3) := by decide +kernel
theorem dX7_market_76 : decode cX7_market 76 = .ok (.iload_n 3, 1) := by decide +kernel
theorem dX7_market_77 : decode cX7_market 77 = .ok (.aload_n 0, 1) := by decide +kernel
theorem dX7_market_78 : decode cX7_market 78 = .ok (.getfield 31, 3) := by decide +kernel
theorem dX7_market_81 : decode cX7_market 81 = .ok (.bipush 6, 2) := by decide +kernel
theorem dX7_market_83 : decode cX7_market 83 = .ok (.iload_n 3, 1) := by decide +kernel
theorem dX7_market_84 : decode cX7_market 84 = .ok (.iadd, 1) := by decide +kernel
theorem dX7_market_85 : decode cX7_market 85 = .ok (.iaload, 1) := by decide +kernel
theorem dX7_market_86 : decode cX7_market 86 = .ok (.iastore, 1) := by decide +kernel
theorem dX7_market_87 : decode cX7_market 87 = .ok (.aload_n 0, 1) := by decide +kernel
theorem dX7_market_88 : decode cX7_market 88 = .ok (.getfield 34, 3) := by decide +kernel
theorem dX7_market_91 : decode cX7_market 91 = .ok (.iload_n 3, 1) := by decide +kernel
theorem dX7_market_92 : decode cX7_market 92 = .ok (.aload_n 0, 1) := by decide +kernel
theorem dX7_market_93 : decode cX7_market 93 = .ok (.getfield 34, 3) := by decide +kernel
theorem dX7_market_96 : decode cX7_market 96 = .ok (.bipush 6, 2) := by decide +kernel
theorem dX7_market_98 : decode cX7_market 98 = .ok (.iload_n 3, 1) := by decide +kernel
theorem dX7_market_99 : decode cX7_market 99 = .ok (.iadd, 1) := by decide +kernel
theorem dX7_market_100 : decode cX7_market 100 = .ok (.iaload, 1) := by decide +kernel
theorem dX7_market_101 : decode cX7_market 101 = .ok (.iastore, 1) := by decide +kernel
theorem dX7_market_102 : decode cX7_market 102 = .ok (.aload_n 0, 1) := by decide +kernel
theorem dX7_market_103 : decode cX7_market 103 = .ok (.getfield 40, 3) := by decide +kernel
theorem dX7_market_106 : decode cX7_market 106 = .ok (.iload_n 3, 1) := by decide +kernel
theorem dX7_market_107 : decode cX7_market 107 = .ok (.aload_n 0, 1) := by decide +kernel
theorem dX7_market_108 : decode cX7_market 108 = .ok (.getfield 40, 3) := by decide +kernel
theorem dX7_market_111 : decode cX7_market 111 = .ok (.bipush 6, 2) := by decide +kernel
theorem dX7_market_113 : decode cX7_market 113 = .ok (.iload_n 3, 1) := by decide +kernel
theorem dX7_market_114 : decode cX7_market 114 = .ok (.iadd, 1) := by decide +kernel
theorem dX7_market_115 : decode cX7_market 115 = .ok (.iaload, 1) := by decide +kernel
theorem dX7_market_116 : decode cX7_market 116 = .ok (.iastore, 1) := by decide +kernel
theorem dX7_market_117 : decode cX7_market 117 = .ok (.aload_n 0, 1) := by decide +kernel
theorem dX7_market_118 : decode cX7_market 118 = .ok (.getfield 43, 3) := by decide +kernel
theorem dX7_market_121 : decode cX7_market 121 = .ok (.iload_n 3, 1) := by decide +kernel
theorem dX7_market_122 : decode cX7_market 122 = .ok (.aload_n 0, 1) := by decide +kernel
theorem dX7_market_123 : decode cX7_market 123 = .ok (.getfield 43, 3) := by decide +kernel
theorem dX7_market_126 : decode cX7_market 126 = .ok (.bipush 6, 2) := by decide +kernel
theorem dX7_market_128 : decode cX7_market 128 = .ok (.iload_n 3, 1) := by decide +kernel
theorem dX7_market_129 : decode cX7_market 129 = .ok (.iadd, 1) := by decide +kernel
theorem dX7_market_130 : decode cX7_market 130 = .ok (.iaload, 1) := by decide +kernel
theorem dX7_market_131 : decode cX7_market 131 = .ok (.iastore, 1) := by decide +kernel
theorem dX7_market_132 : decode cX7_market 132 = .ok (.aload_n 0, 1) := by decide +kernel
theorem dX7_market_133 : decode cX7_market 133 = .ok (.getfield 46, 3) := by decide +kernel
theorem dX7_market_136 : decode cX7_market 136 = .ok (.iload_n 3, 1) := by decide +kernel
theorem dX7_market_137 : decode cX7_market 137 = .ok (.aload_n 0, 1) := by decide +kernel
theorem dX7_market_138 : decode cX7_market 138 = .ok (.getfield 46, 3) := by decide +kernel
theorem dX7_market_141 : decode cX7_market 141 = .ok (.bipush 6, 2) := by decide +kernel
theorem dX7_market_143 : decode cX7_market 143 = .ok (.iload_n 3, 1) := by decide +kernel
theorem dX7_market_144 : decode cX7_market 144 = .ok (.iadd, 1) := by decide +kernel
theorem dX7_market_145 : decode cX7_market 145 = .ok (.iaload, 1) := by decide +kernel
theorem dX7_market_146 : decode cX7_market 146 = .ok (.iastore, 1) := by decide +kernel
theorem dX7_market_147 : decode cX7_market 147 = .ok (.aload_n 0, 1) := by decide +kernel
theorem dX7_market_148 : decode cX7_market 148 = .ok (.getfield 37, 3) := by decide +kernel
theorem dX7_market_151 : decode cX7_market 151 = .ok (.iload_n 3, 1) := by decide +kernel
theorem dX7_market_152 : decode cX7_market 152 = .ok (.iconst 0, 1) := by decide +kernel
theorem dX7_market_153 : decode cX7_market 153 = .ok (.iastore, 1) := by decide +kernel
theorem dX7_market_154 : decode cX7_market 154 = .ok (.aload_n 0, 1) := by decide +kernel
theorem dX7_market_155 : decode cX7_market 155 = .ok (.getfield 49, 3) := by decide +kernel
theorem dX7_market_158 : decode cX7_market 158 = .ok (.iload_n 3, 1) := by decide +kernel
theorem dX7_market_159 : decode cX7_market 159 = .ok (.iconst 0, 1) := by decide +kernel
theorem dX7_market_160 : decode cX7_market 160 = .ok (.iastore, 1) := by decide +kernel
theorem dX7_market_161 : decode cX7_market 161 = .ok (.iinc 3 1, 3) := by decide +kernel
theorem dX7_market_164 : decode cX7_market 164 = .ok (.goto (-113), 3) := by decide +kernel
theorem dX7_market_167 : decode cX7_market 167 = .ok (.aload_n 0, 1) := by decide +kernel
theorem dX7_market_168 : decode cX7_market 168 = .ok (.iconst 0, 1) := by decide +kernel
theorem dX7_market_169 : decode cX7_market 169 = .ok (.putfield 160, 3) := by decide +kernel
theorem dX7_market_172 : decode cX7_market 172 = .ok (.aload_n 0, 1) := by decide +kernel
theorem dX7_market_173 : decode cX7_market 173 = .ok (.iconst 0, 1) := by decide +kernel
theorem dX7_market_174 : decode cX7_market 174 = .ok (.putfield 163, 3) := by decide +kernel
theorem dX7_market_177 : decode cX7_market 177 = .ok (.iconst 0, 1) := by decide +kernel
theorem dX7_market_178 : decode cX7_market 178 = .ok (.istore_n 3, 1) := by decide +kernel
theorem dX7_market_179 : decode cX7_market 179 = .ok (.iload_n 3, 1) := by decide +kernel
theorem dX7_market_180 : decode cX7_market 180 = .ok (.iconst 3, 1) := by decide +kernel
theorem dX7_market_181 : decode cX7_market 181 = .ok (.if_icmp .ge 20, 3) := by decide +kernel
theorem dX7_market_184 : decode cX7_market 184 = .ok (.aload_n 0, 1) := by decide +kernel
theorem dX7_market_185 : decode cX7_market 185 = .ok (.getfield 55, 3) := by decide +kernel
theorem dX7_market_188 : decode cX7_market 188 = .ok (.bipush 32, 2) := by decide +kernel
theorem dX7_market_190 : decode cX7_market 190 = .ok (.iload_n 3, 1) := by decide +kernel
theorem dX7_market_191 : decode cX7_market 191 = .ok (.imul, 1) := by decide +kernel
theorem dX7_market_192 : decode cX7_market 192 = .ok (.bipush (-9), 2) := by decide +kernel
theorem dX7_market_194 : decode cX7_market 194 = .ok (.iastore, 1) := by decide +kernel
theorem dX7_market_195 : decode cX7_market 195 = .ok (.iinc 3 1, 3) := by decide +kernel
theorem dX7_market_198 : decode cX7_market 198 = .ok (.goto (-19), 3) := by decide +kernel
theorem dX7_market_201 : decode cX7_market 201 = .ok (.aload_n 0, 1) := by decide +kernel
theorem dX7_market_202 : decode cX7_market 202 = .ok (.getfield 151, 3) := by decide +kernel
theorem dX7_market_205 : decode cX7_market 205 = .ok (.ireturn, 1) := by decide +kernel
theorem dX7_isBuyer_0 : decode cX7_isBuyer 0 = .ok (.iload_n 1, 1) := by decide +kernel
theorem dX7_isBuyer_1 : decode cX7_isBuyer 1 = .ok (.iconst 0, 1) := by decide +kernel
theorem dX7_isBuyer_2 : decode cX7_isBuyer 2 = .ok (.aload_n 0, 1) := by decide +kernel
theorem dX7_isBuyer_3 : decode cX7_isBuyer 3 = .ok (.getfield 151, 3) := by decide +kernel
theorem dX7_isBuyer_6 : decode cX7_isBuyer 6 = .ok (.iconst 1, 1) := by decide +kernel
theorem dX7_isBuyer_7 : decode cX7_isBuyer 7 = .ok (.isub, 1) := by decide +kernel
theorem dX7_isBuyer_8 : decode cX7_isBuyer 8 = .ok (.invokestatic 83, 3) := by decide +kernel
theorem dX7_isBuyer_11 : decode cX7_isBuyer 11 = .ok (.ireturn, 1) := by decide +kernel
theorem dX7_isStall_0 : decode cX7_isStall 0 = .ok (.iload_n 1, 1) := by decide +kernel
theorem dX7_isStall_1 : decode cX7_isStall 1 = .ok (.iconst 0, 1) := by decide +kernel
theorem dX7_isStall_2 : decode cX7_isStall 2 = .ok (.aload_n 0, 1) := by decide +kernel
theorem dX7_isStall_3 : decode cX7_isStall 3 = .ok (.getfield 154, 3) := by decide +kernel
theorem dX7_isStall_6 : decode cX7_isStall 6 = .ok (.iconst 1, 1) := by decide +kernel
theorem dX7_isStall_7 : decode cX7_isStall 7 = .ok (.isub, 1) := by decide +kernel
theorem dX7_isStall_8 : decode cX7_isStall 8 = .ok (.invokestatic 83, 3) := by decide +kernel
theorem dX7_isStall_11 : decode cX7_isStall 11 = .ok (.ireturn, 1) := by decide +kernel
theorem dX7_isA_0 : decode cX7_isA 0 = .ok (.aload_n 0, 1) := by decide +kernel
theorem dX7_isA_1 : decode cX7_isA 1 = .ok (.getfield 28, 3) := by decide +kernel
theorem dX7_isA_4 : decode cX7_isA 4 = .ok (.iload_n 1, 1) := by decide +kernel
theorem dX7_isA_5 : decode cX7_isA 5 = .ok (.iaload, 1) := by decide +kernel
theorem dX7_isA_6 : decode cX7_isA 6 = .ok (.iload_n 2, 1) := by decide +kernel
theorem dX7_isA_7 : decode cX7_isA 7 = .ok (.if_icmp .eq 33, 3) := by decide +kernel
theorem dX7_isA_10 : decode cX7_isA 10 = .ok (.iload_n 2, 1) := by decide +kernel
theorem dX7_isA_11 : decode cX7_isA 11 = .ok (.iconst 1, 1) := by decide +kernel
theorem dX7_isA_12 : decode cX7_isA 12 = .ok (.if_icmp .ne 13, 3) := by decide +kernel
theorem dX7_isA_15 : decode cX7_isA 15 = .ok (.aload_n 0, 1) := by decide +kernel
theorem dX7_isA_16 : decode cX7_isA 16 = .ok (.getfield 28, 3) := by decide +kernel
theorem dX7_isA_19 : decode cX7_isA 19 = .ok (.iload_n 1, 1) := by decide +kernel
theorem dX7_isA_20 : decode cX7_isA 20 = .ok (.iaload, 1) := by decide +kernel
theorem dX7_isA_21 : decode cX7_isA 21 = .ok (.iconst 5, 1) := by decide +kernel
theorem dX7_isA_22 : decode cX7_isA 22 = .ok (.if_icmp .eq 18, 3) := by decide +kernel
theorem dX7_isA_25 : decode cX7_isA 25 = .ok (.iload_n 2, 1) := by decide +kernel
theorem dX7_isA_26 : decode cX7_isA 26 = .ok (.iconst 2, 1) := by decide +kernel
theorem dX7_isA_27 : decode cX7_isA 27 = .ok (.if_icmp .ne 17, 3) := by decide +kernel
theorem dX7_isA_30 : decode cX7_isA 30 = .ok (.aload_n 0, 1) := by decide +kernel
theorem dX7_isA_31 : decode cX7_isA 31 = .ok (.getfield 28, 3) := by decide +kernel
theorem dX7_isA_34 : decode cX7_isA 34 = .ok (.iload_n 1, 1) := by decide +kernel
theorem dX7_isA_35 : decode cX7_isA 35 = .ok (.iaload, 1) := by decide +kernel
theorem dX7_isA_36 : decode cX7_isA 36 = .ok (.iconst 4, 1) := by decide +kernel
theorem dX7_isA_37 : decode cX7_isA 37 = .ok (.if_icmp .ne 7, 3) := by decide +kernel
theorem dX7_isA_40 : decode cX7_isA 40 = .ok (.iconst 1, 1) := by decide +kernel
theorem dX7_isA_41 : decode cX7_isA 41 = .ok (.goto 4, 3) := by decide +kernel
theorem dX7_isA_44 : decode cX7_isA 44 = .ok (.iconst 0, 1) := by decide +kernel
theorem dX7_isA_45 : decode cX7_isA 45 = .ok (.ireturn, 1) := by decide +kernel
theorem dX7_buyerOf_0 : decode cX7_buyerOf 0 = .ok (.iload_n 2, 1) := by decide +kernel
theorem dX7_buyerOf_1 : decode cX7_buyerOf 1 = .ok (.ifCond .ne 12, 3) := by decide +kernel
theorem dX7_buyerOf_4 : decode cX7_buyerOf 4 = .ok (.aload_n 0, 1) := by decide +kernel
theorem dX7_buyerOf_5 : decode cX7_buyerOf 5 = .ok (.getfield 28, 3) := by decide +kernel
theorem dX7_buyerOf_8 : decode cX7_buyerOf 8 = .ok (.iload_n 1, 1) := by decide +kernel
theorem dX7_buyerOf_9 : decode cX7_buyerOf 9 = .ok (.iaload, 1) := by decide +kernel
theorem dX7_buyerOf_10 : decode cX7_buyerOf 10 = .ok (.goto 52, 3) := by decide +kernel
theorem dX7_buyerOf_13 : decode cX7_buyerOf 13 = .ok (.iload_n 2, 1) := by decide +kernel
theorem dX7_buyerOf_14 : decode cX7_buyerOf 14 = .ok (.iconst 1, 1) := by decide +kernel
theorem dX7_buyerOf_15 : decode cX7_buyerOf 15 = .ok (.if_icmp .ne 12, 3) := by decide +kernel
theorem dX7_buyerOf_18 : decode cX7_buyerOf 18 = .ok (.aload_n 0, 1) := by decide +kernel
theorem dX7_buyerOf_19 : decode cX7_buyerOf 19 = .ok (.getfield 31, 3) := by decide +kernel
theorem dX7_buyerOf_22 : decode cX7_buyerOf 22 = .ok (.iload_n 1, 1) := by decide +kernel
theorem dX7_buyerOf_23 : decode cX7_buyerOf 23 = .ok (.iaload, 1) := by decide +kernel
theorem dX7_buyerOf_24 : decode cX7_buyerOf 24 = .ok (.goto 38, 3) := by decide +kernel
theorem dX7_buyerOf_27 : decode cX7_buyerOf 27 = .ok (.iload_n 2, 1) := by decide +kernel
theorem dX7_buyerOf_28 : decode cX7_buyerOf 28 = .ok (.iconst 2, 1) := by decide +kernel
theorem dX7_buyerOf_29 : decode cX7_buyerOf 29 = .ok (.if_icmp .ne 27, 3) := by decide +kernel
theorem dX7_buyerOf_32 : decode cX7_buyerOf 32 = .ok (.aload_n 0, 1) := by decide +kernel
theorem dX7_buyerOf_33 : decode cX7_buyerOf 33 = .ok (.getfield 34, 3) := by decide +kernel
theorem dX7_buyerOf_36 : decode cX7_buyerOf 36 = .ok (.iload_n 1, 1) := by decide +kernel
theorem dX7_buyerOf_37 : decode cX7_buyerOf 37 = .ok (.iaload, 1) := by decide +kernel
theorem dX7_buyerOf_38 : decode cX7_buyerOf 38 = .ok (.iconst 4, 1) := by decide +kernel
theorem dX7_buyerOf_39 : decode cX7_buyerOf 39 = .ok (.if_icmp .ne 8, 3) := by decide +kernel
theorem dX7_buyerOf_42 : decode cX7_buyerOf 42 = .ok (.bipush (-9), 2) := by decide +kernel
theorem dX7_buyerOf_44 : decode cX7_buyerOf 44 = .ok (.goto 18, 3) := by decide +kernel
theorem dX7_buyerOf_47 : decode cX7_buyerOf 47 = .ok (.aload_n 0, 1) := by decide +kernel
theorem dX7_buyerOf_48 : decode cX7_buyerOf 48 = .ok (.getfield 34, 3) := by decide +kernel
theorem dX7_buyerOf_51 : decode cX7_buyerOf 51 = .ok (.iload_n 1, 1) := by decide +kernel
theorem dX7_buyerOf_52 : decode cX7_buyerOf 52 = .ok (.iaload, 1) := by decide +kernel
theorem dX7_buyerOf_53 : decode cX7_buyerOf 53 = .ok (.goto 9, 3) := by decide +kernel
theorem dX7_buyerOf_56 : decode cX7_buyerOf 56 = .ok (.aload_n 0, 1) := by decide +kernel
theorem dX7_buyerOf_57 : decode cX7_buyerOf 57 = .ok (.getfield 37, 3) := by decide +kernel
theorem dX7_buyerOf_60 : decode cX7_buyerOf 60 = .ok (.iload_n 1, 1) := by decide +kernel
theorem dX7_buyerOf_61 : decode cX7_buyerOf 61 = .ok (.iaload, 1) := by decide +kernel
theorem dX7_buyerOf_62 : decode cX7_buyerOf 62 = .ok (.ireturn, 1) := by decide +kernel
theorem dX7_stallOf_0 : decode cX7_stallOf 0 = .ok (.iload_n 2, 1) := by decide +kernel
theorem dX7_stallOf_1 : decode cX7_stallOf 1 = .ok (.ifCond .ne 12, 3) := by decide +kernel
theorem dX7_stallOf_4 : decode cX7_stallOf 4 = .ok (.aload_n 0, 1) := by decide +kernel
theorem dX7_stallOf_5 : decode cX7_stallOf 5 = .ok (.getfield 40, 3) := by decide +kernel
theorem dX7_stallOf_8 : decode cX7_stallOf 8 = .ok (.iload_n 1, 1) := by decide +kernel
theorem dX7_stallOf_9 : decode cX7_stallOf 9 = .ok (.iaload, 1) := by decide +kernel
theorem dX7_stallOf_10 : decode cX7_stallOf 10 = .ok (.goto 37, 3) := by decide +kernel
theorem dX7_stallOf_13 : decode cX7_stallOf 13 = .ok (.iload_n 2, 1) := by decide +kernel
theorem dX7_stallOf_14 : decode cX7_stallOf 14 = .ok (.iconst 1, 1) := by decide +kernel
theorem dX7_stallOf_15 : decode cX7_stallOf 15 = .ok (.if_icmp .ne 12, 3) := by decide +kernel
theorem dX7_stallOf_18 : decode cX7_stallOf 18 = .ok (.aload_n 0, 1) := by decide +kernel
theorem dX7_stallOf_19 : decode cX7_stallOf 19 = .ok (.getfield 43, 3) := by decide +kernel
theorem dX7_stallOf_22 : decode cX7_stallOf 22 = .ok (.iload_n 1, 1) := by decide +kernel
theorem dX7_stallOf_23 : decode cX7_stallOf 23 = .ok (.iaload, 1) := by decide +kernel
theorem dX7_stallOf_24 : decode cX7_stallOf 24 = .ok (.goto 23, 3) := by decide +kernel
theorem dX7_stallOf_27 : decode cX7_stallOf 27 = .ok (.iload_n 2, 1) := by decide +kernel
theorem dX7_stallOf_28 : decode cX7_stallOf 28 = .ok (.iconst 2, 1) := by decide +kernel
theorem dX7_stallOf_29 : decode cX7_stallOf 29 = .ok (.if_icmp .ne 12, 3) := by decide +kernel
theorem dX7_stallOf_32 : decode cX7_stallOf 32 = .ok (.aload_n 0, 1) := by decide +kernel
theorem dX7_stallOf_33 : decode cX7_stallOf 33 = .ok (.getfield 46, 3) := by decide +kernel
theorem dX7_stallOf_36 : decode cX7_stallOf 36 = .ok (.iload_n 1, 1) := by decide +kernel
theorem dX7_stallOf_37 : decode cX7_stallOf 37 = .ok (.iaload, 1) := by decide +kernel
theorem dX7_stallOf_38 : decode cX7_stallOf 38 = .ok (.goto 9, 3) := by decide +kernel
theorem dX7_stallOf_41 : decode cX7_stallOf 41 = .ok (.aload_n 0, 1) := by decide +kernel
theorem dX7_stallOf_42 : decode cX7_stallOf 42 = .ok (.getfield 49, 3) := by decide +kernel
theorem dX7_stallOf_45 : decode cX7_stallOf 45 = .ok (.iload_n 1, 1) := by decide +kernel
theorem dX7_stallOf_46 : decode cX7_stallOf 46 = .ok (.iaload, 1) := by decide +kernel
theorem dX7_stallOf_47 : decode cX7_stallOf 47 = .ok (.ireturn, 1) := by decide +kernel
theorem dX7_buyer_0 : decode cX7_buyer 0 = .ok (.aload_n 0, 1) := by decide +kernel
theorem dX7_buyer_1 : decode cX7_buyer 1 = .ok (.iload_n 1, 1) := by decide +kernel
theorem dX7_buyer_2 : decode cX7_buyer 2 = .ok (.invokevirtual 166, 3) := by decide +kernel
theorem dX7_buyer_5 : decode cX7_buyer 5 = .ok (.ifCond .eq 26, 3) := by decide +kernel
theorem dX7_buyer_8 : decode cX7_buyer 8 = .ok (.iload_n 2, 1) := by decide +kernel
theorem dX7_buyer_9 : decode cX7_buyer 9 = .ok (.iconst 0, 1) := by decide +kernel
theorem dX7_buyer_10 : decode cX7_buyer 10 = .ok (.iconst 3, 1) := by decide +kernel
theorem dX7_buyer_11 : decode cX7_buyer 11 = .ok (.invokestatic 83, 3) := by decide +kernel
theorem dX7_buyer_14 : decode cX7_buyer 14 = .ok (.ifCond .eq 17, 3) := by decide +kernel
theorem dX7_buyer_17 : decode cX7_buyer 17 = .ok (.aload_n 0, 1) := by decide +kernel
theorem dX7_buyer_18 : decode cX7_buyer 18 = .ok (.aload_n 0, 1) := by decide +kernel
theorem dX7_buyer_19 : decode cX7_buyer 19 = .ok (.iload_n 1, 1) := by decide +kernel
theorem dX7_buyer_20 : decode cX7_buyer 20 = .ok (.iload_n 2, 1) := by decide +kernel
theorem dX7_buyer_21 : decode cX7_buyer 21 = .ok (.invokevirtual 169, 3) := by decide +kernel
theorem dX7_buyer_24 : decode cX7_buyer 24 = .ok (.iconst 1, 1) := by decide +kernel
theorem dX7_buyer_25 : decode cX7_buyer 25 = .ok (.invokevirtual 109, 3) := by decide +kernel
theorem dX7_buyer_28 : decode cX7_buyer 28 = .ok (.goto 4, 3) := by decide +kernel
theorem dX7_buyer_31 : decode cX7_buyer 31 = .ok (.iconst (-1), 1) := by decide +kernel
theorem dX7_buyer_32 : decode cX7_buyer 32 = .ok (.ireturn, 1) := by decide +kernel
theorem dX7_stall_0 : decode cX7_stall 0 = .ok (.aload_n 0, 1) := by decide +kernel
theorem dX7_stall_1 : decode cX7_stall 1 = .ok (.iload_n 1, 1) := by decide +kernel
theorem dX7_stall_2 : decode cX7_stall 2 = .ok (.invokevirtual 172, 3) := by decide +kernel
theorem dX7_stall_5 : decode cX7_stall 5 = .ok (.ifCond .eq 26, 3) := by decide +kernel
theorem dX7_stall_8 : decode cX7_stall 8 = .ok (.iload_n 2, 1) := by decide +kernel
theorem dX7_stall_9 : decode cX7_stall 9 = .ok (.iconst 0, 1) := by decide +kernel
theorem dX7_stall_10 : decode cX7_stall 10 = .ok (.iconst 3, 1) := by decide +kernel
theorem dX7_stall_11 : decode cX7_stall 11 = .ok (.invokestatic 83, 3) := by decide +kernel
theorem dX7_stall_14 : decode cX7_stall 14 = .ok (.ifCond .eq 17, 3) := by decide +kernel
theorem dX7_stall_17 : decode cX7_stall 17 = .ok (.aload_n 0, 1) := by decide +kernel
theorem dX7_stall_18 : decode cX7_stall 18 = .ok (.aload_n 0, 1) := by decide +kernel
theorem dX7_stall_19 : decode cX7_stall 19 = .ok (.iload_n 1, 1) := by decide +kernel
theorem dX7_stall_20 : decode cX7_stall 20 = .ok (.iload_n 2, 1) := by decide +kernel
theorem dX7_stall_21 : decode cX7_stall 21 = .ok (.invokevirtual 175, 3) := by decide +kernel
theorem dX7_stall_24 : decode cX7_stall 24 = .ok (.iconst 1, 1) := by decide +kernel
theorem dX7_stall_25 : decode cX7_stall 25 = .ok (.invokevirtual 109, 3) := by decide +kernel
theorem dX7_stall_28 : decode cX7_stall 28 = .ok (.goto 4, 3) := by decide +kernel
theorem dX7_stall_31 : decode cX7_stall 31 = .ok (.iconst (-1), 1) := by decide +kernel
theorem dX7_stall_32 : decode cX7_stall 32 = .ok (.ireturn, 1) := by decide +kernel
theorem dX7_size_0 : decode cX7_size 0 = .ok (.iload_n 0, 1) := by decide +kernel
theorem dX7_size_1 : decode cX7_size 1 = .ok (.ifCond .ge 8, 3) := by decide +kernel
theorem dX7_size_4 : decode cX7_size 4 = .ok (.iload_n 0, 1) := by decide +kernel
theorem dX7_size_5 : decode cX7_size 5 = .ok (.ineg, 1) := by decide +kernel
theorem dX7_size_6 : decode cX7_size 6 = .ok (.goto 4, 3) := by decide +kernel
theorem dX7_size_9 : decode cX7_size 9 = .ok (.iload_n 0, 1) := by decide +kernel
theorem dX7_size_10 : decode cX7_size 10 = .ok (.ireturn, 1) := by decide +kernel
theorem dX7_nearest_0 : decode cX7_nearest 0 = .ok (.bipush (-9), 2) := by decide +kernel
theorem dX7_nearest_2 : decode cX7_nearest 2 = .ok (.istore 4, 2) := by decide +kernel
theorem dX7_nearest_4 : decode cX7_nearest 4 = .ok (.iconst 0, 1) := by decide +kernel
theorem dX7_nearest_5 : decode cX7_nearest 5 = .ok (.istore 5, 2) := by decide +kernel
theorem dX7_nearest_7 : decode cX7_nearest 7 = .ok (.iload 5, 2) := by decide +kernel
theorem dX7_nearest_9 : decode cX7_nearest 9 = .ok (.aload_n 0, 1) := by decide +kernel
theorem dX7_nearest_10 : decode cX7_nearest 10 = .ok (.getfield 154, 3) := by decide +kernel
theorem dX7_nearest_13 : decode cX7_nearest 13 = .ok (.if_icmp .ge 133, 3) := by decide +kernel
theorem dX7_nearest_16 : decode cX7_nearest 16 = .ok (.aload_n 0, 1) := by decide +kernel
theorem dX7_nearest_17 : decode cX7_nearest 17 = .ok (.getfield 43, 3) := by decide +kernel
theorem dX7_nearest_20 : decode cX7_nearest 20 = .ok (.iload 5, 2) := by decide +kernel
theorem dX7_nearest_22 : decode cX7_nearest 22 = .ok (.iaload, 1) := by decide +kernel
theorem dX7_nearest_23 : decode cX7_nearest 23 = .ok (.iload_n 2, 1) := by decide +kernel
theorem dX7_nearest_24 : decode cX7_nearest 24 = .ok (.if_icmp .eq 14, 3) := by decide +kernel
theorem dX7_nearest_27 : decode cX7_nearest 27 = .ok (.aload_n 0, 1) := by decide +kernel
theorem dX7_nearest_28 : decode cX7_nearest 28 = .ok (.getfield 43, 3) := by decide +kernel
theorem dX7_nearest_31 : decode cX7_nearest 31 = .ok (.iload 5, 2) := by decide +kernel
theorem dX7_nearest_33 : decode cX7_nearest 33 = .ok (.iaload, 1) := by decide +kernel
theorem dX7_nearest_34 : decode cX7_nearest 34 = .ok (.iload_n 3, 1) := by decide +kernel
theorem dX7_nearest_35 : decode cX7_nearest 35 = .ok (.if_icmp .ne 105, 3) := by decide +kernel
theorem dX7_nearest_38 : decode cX7_nearest 38 = .ok (.aload_n 0, 1) := by decide +kernel
theorem dX7_nearest_39 : decode cX7_nearest 39 = .ok (.getfield 40, 3) := by decide +kernel
theorem dX7_nearest_42 : decode cX7_nearest 42 = .ok (.iload 5, 2) := by decide +kernel
theorem dX7_nearest_44 : decode cX7_nearest 44 = .ok (.iaload, 1) := by decide +kernel
theorem dX7_nearest_45 : decode cX7_nearest 45 = .ok (.aload_n 0, 1) := by decide +kernel
theorem dX7_nearest_46 : decode cX7_nearest 46 = .ok (.getfield 31, 3) := by decide +kernel
theorem dX7_nearest_49 : decode cX7_nearest 49 = .ok (.iload_n 1, 1) := by decide +kernel
theorem dX7_nearest_50 : decode cX7_nearest 50 = .ok (.iaload, 1) := by decide +kernel
theorem dX7_nearest_51 : decode cX7_nearest 51 = .ok (.isub, 1) := by decide +kernel
theorem dX7_nearest_52 : decode cX7_nearest 52 = .ok (.invokestatic 178, 3) := by decide +kernel
theorem dX7_nearest_55 : decode cX7_nearest 55 = .ok (.istore 6, 2) := by decide +kernel
theorem dX7_nearest_57 : decode cX7_nearest 57 = .ok (.iload 4, 2) := by decide +kernel
theorem dX7_nearest_59 : decode cX7_nearest 59 = .ok (.bipush (-9), 2) := by decide +kernel
theorem dX7_nearest_61 : decode cX7_nearest 61 = .ok (.if_icmp .ne 8, 3) := by decide +kernel
theorem dX7_nearest_64 : decode cX7_nearest 64 = .ok (.bipush 100, 2) := by decide +kernel
theorem dX7_nearest_66 : decode cX7_nearest 66 = .ok (.goto 20, 3) := by decide +kernel
theorem dX7_nearest_69 : decode cX7_nearest 69 = .ok (.aload_n 0, 1) := by decide +kernel
theorem dX7_nearest_70 : decode cX7_nearest 70 = .ok (.getfield 40, 3) := by decide +kernel
theorem dX7_nearest_73 : decode cX7_nearest 73 = .ok (.iload 4, 2) := by decide +kernel
theorem dX7_nearest_75 : decode cX7_nearest 75 = .ok (.iaload, 1) := by decide +kernel
theorem dX7_nearest_76 : decode cX7_nearest 76 = .ok (.aload_n 0, 1) := by decide +kernel
theorem dX7_nearest_77 : decode cX7_nearest 77 = .ok (.getfield 31, 3) := by decide +kernel
theorem dX7_nearest_80 : decode cX7_nearest 80 = .ok (.iload_n 1, 1) := by decide +kernel
theorem dX7_nearest_81 : decode cX7_nearest 81 = .ok (.iaload, 1) := by decide +kernel
theorem dX7_nearest_82 : decode cX7_nearest 82 = .ok (.isub, 1) := by decide +kernel
theorem dX7_nearest_83 : decode cX7_nearest 83 = .ok (.invokestatic 178, 3) := by decide +kernel
theorem dX7_nearest_86 : decode cX7_nearest 86 = .ok (.istore 7, 2) := by decide +kernel
theorem dX7_nearest_88 : decode cX7_nearest 88 = .ok (.iload 6, 2) := by decide +kernel
theorem dX7_nearest_90 : decode cX7_nearest 90 = .ok (.iload 7, 2) := by decide +kernel
theorem dX7_nearest_92 : decode cX7_nearest 92 = .ok (.if_icmp .lt 27, 3) := by decide +kernel
theorem dX7_nearest_95 : decode cX7_nearest 95 = .ok (.iload 6, 2) := by decide +kernel
theorem dX7_nearest_97 : decode cX7_nearest 97 = .ok (.iload 7, 2) := by decide +kernel
theorem dX7_nearest_99 : decode cX7_nearest 99 = .ok (.if_icmp .ne 24, 3) := by decide +kernel
theorem dX7_nearest_102 : decode cX7_nearest 102 = .ok (.aload_n 0, 1) := by decide +kernel
theorem dX7_nearest_103 : decode cX7_nearest 103 = .ok (.getfield 40, 3) := by decide +kernel
theorem dX7_nearest_106 : decode cX7_nearest 106 = .ok (.iload 5, 2) := by decide +kernel
theorem dX7_nearest_108 : decode cX7_nearest 108 = .ok (.iaload, 1) := by decide +kernel
theorem dX7_nearest_109 : decode cX7_nearest 109 = .ok (.aload_n 0, 1) := by decide +kernel
theorem dX7_nearest_110 : decode cX7_nearest 110 = .ok (.getfield 40, 3) := by decide +kernel
theorem dX7_nearest_113 : decode cX7_nearest 113 = .ok (.iload 4, 2) := by decide +kernel
theorem dX7_nearest_115 : decode cX7_nearest 115 = .ok (.iaload, 1) := by decide +kernel
theorem dX7_nearest_116 : decode cX7_nearest 116 = .ok (.if_icmp .ge 7, 3) := by decide +kernel
theorem dX7_nearest_119 : decode cX7_nearest 119 = .ok (.iconst 1, 1) := by decide +kernel
theorem dX7_nearest_120 : decode cX7_nearest 120 = .ok (.goto 4, 3) := by decide +kernel
theorem dX7_nearest_123 : decode cX7_nearest 123 = .ok (.iconst 0, 1) := by decide +kernel
theorem dX7_nearest_124 : decode cX7_nearest 124 = .ok (.istore 8, 2) := by decide +kernel
theorem dX7_nearest_126 : decode cX7_nearest 126 = .ok (.iload 8, 2) := by decide +kernel
theorem dX7_nearest_128 : decode cX7_nearest 128 = .ok (.ifCond .eq 8, 3) := by decide +kernel
theorem dX7_nearest_131 : decode cX7_nearest 131 = .ok (.iload 5, 2) := by decide +kernel
theorem dX7_nearest_133 : decode cX7_nearest 133 = .ok (.goto 5, 3) := by decide +kernel
theorem dX7_nearest_136 : decode cX7_nearest 136 = .ok (.iload 4, 2) := by decide +kernel
theorem dX7_nearest_138 : decode cX7_nearest 138 = .ok (.istore 4, 2) := by decide +kernel
theorem dX7_nearest_140 : decode cX7_nearest 140 = .ok (.iinc 5 1, 3) := by decide +kernel
theorem dX7_nearest_143 : decode cX7_nearest 143 = .ok (.goto (-136), 3) := by decide +kernel
theorem dX7_nearest_146 : decode cX7_nearest 146 = .ok (.iload 4, 2) := by decide +kernel
theorem dX7_nearest_148 : decode cX7_nearest 148 = .ok (.ireturn, 1) := by decide +kernel
theorem dX7_farTo_0 : decode cX7_farTo 0 = .ok (.aload_n 0, 1) := by decide +kernel
theorem dX7_farTo_1 : decode cX7_farTo 1 = .ok (.iload_n 1, 1) := by decide +kernel
theorem dX7_farTo_2 : decode cX7_farTo 2 = .ok (.iload_n 2, 1) := by decide +kernel
theorem dX7_farTo_3 : decode cX7_farTo 3 = .ok (.iload_n 2, 1) := by decide +kernel
theorem dX7_farTo_4 : decode cX7_farTo 4 = .ok (.invokevirtual 181, 3) := by decide +kernel
theorem dX7_farTo_7 : decode cX7_farTo 7 = .ok (.istore_n 3, 1) := by decide +kernel
theorem dX7_farTo_8 : decode cX7_farTo 8 = .ok (.iload_n 3, 1) := by decide +kernel
theorem dX7_farTo_9 : decode cX7_farTo 9 = .ok (.bipush (-9), 2) := by decide +kernel
theorem dX7_farTo_11 : decode cX7_farTo 11 = .ok (.if_icmp .ne 8, 3) := by decide +kernel
theorem dX7_farTo_14 : decode cX7_farTo 14 = .ok (.bipush (-9), 2) := by decide +kernel
theorem dX7_farTo_16 : decode cX7_farTo 16 = .ok (.goto 19, 3) := by decide +kernel
theorem dX7_farTo_19 : decode cX7_farTo 19 = .ok (.aload_n 0, 1) := by decide +kernel
theorem dX7_farTo_20 : decode cX7_farTo 20 = .ok (.getfield 40, 3) := by decide +kernel
theorem dX7_farTo_23 : decode cX7_farTo 23 = .ok (.iload_n 3, 1) := by decide +kernel
theorem dX7_farTo_24 : decode cX7_farTo 24 = .ok (.iaload, 1) := by decide +kernel
theorem dX7_farTo_25 : decode cX7_farTo 25 = .ok (.aload_n 0, 1) := by decide +kernel
theorem dX7_farTo_26 : decode cX7_farTo 26 = .ok (.getfield 31, 3) := by decide +kernel
theorem dX7_farTo_29 : decode cX7_farTo 29 = .ok (.iload_n 1, 1) := by decide +kernel
theorem dX7_farTo_30 : decode cX7_farTo 30 = .ok (.iaload, 1) := by decide +kernel
theorem dX7_farTo_31 : decode cX7_farTo 31 = .ok (.isub, 1) := by decide +kernel
theorem dX7_farTo_32 : decode cX7_farTo 32 = .ok (.invokestatic 178, 3) := by decide +kernel
theorem dX7_farTo_35 : decode cX7_farTo 35 = .ok (.ireturn, 1) := by decide +kernel
theorem dX7_wishOf_0 : decode cX7_wishOf 0 = .ok (.aload_n 0, 1) := by decide +kernel
theorem dX7_wishOf_1 : decode cX7_wishOf 1 = .ok (.iload_n 1, 1) := by decide +kernel
theorem dX7_wishOf_2 : decode cX7_wishOf 2 = .ok (.iconst 2, 1) := by decide +kernel
theorem dX7_wishOf_3 : decode cX7_wishOf 3 = .ok (.invokevirtual 185, 3) := by decide +kernel
theorem dX7_wishOf_6 : decode cX7_wishOf 6 = .ok (.ifCond .eq 5, 3) := by decide +kernel
theorem dX7_wishOf_9 : decode cX7_wishOf 9 = .ok (.iconst 0, 1) := by decide +kernel
theorem dX7_wishOf_10 : decode cX7_wishOf 10 = .ok (.ireturn, 1) := by decide +kernel
theorem dX7_wishOf_11 : decode cX7_wishOf 11 = .ok (.aload_n 0, 1) := by decide +kernel
theorem dX7_wishOf_12 : decode cX7_wishOf 12 = .ok (.getfield 34, 3) := by decide +kernel
theorem dX7_wishOf_15 : decode cX7_wishOf 15 = .ok (.iload_n 1, 1) := by decide +kernel
theorem dX7_wishOf_16 : decode cX7_wishOf 16 = .ok (.iaload, 1) := by decide +kernel
theorem dX7_wishOf_17 : decode cX7_wishOf 17 = .ok (.iconst 4, 1) := by decide +kernel
theorem dX7_wishOf_18 : decode cX7_wishOf 18 = .ok (.if_icmp .ne 8, 3) := by decide +kernel
theorem dX7_wishOf_21 : decode cX7_wishOf 21 = .ok (.bipush (-9), 2) := by decide +kernel
theorem dX7_wishOf_23 : decode cX7_wishOf 23 = .ok (.goto 9, 3) := by decide +kernel
theorem dX7_wishOf_26 : decode cX7_wishOf 26 = .ok (.aload_n 0, 1) := by decide +kernel
theorem dX7_wishOf_27 : decode cX7_wishOf 27 = .ok (.getfield 34, 3) := by decide +kernel
theorem dX7_wishOf_30 : decode cX7_wishOf 30 = .ok (.iload_n 1, 1) := by decide +kernel
theorem dX7_wishOf_31 : decode cX7_wishOf 31 = .ok (.iaload, 1) := by decide +kernel
theorem dX7_wishOf_32 : decode cX7_wishOf 32 = .ok (.istore_n 2, 1) := by decide +kernel
theorem dX7_wishOf_33 : decode cX7_wishOf 33 = .ok (.aload_n 0, 1) := by decide +kernel
theorem dX7_wishOf_34 : decode cX7_wishOf 34 = .ok (.iload_n 1, 1) := by decide +kernel
theorem dX7_wishOf_35 : decode cX7_wishOf 35 = .ok (.iload_n 2, 1) := by decide +kernel
theorem dX7_wishOf_36 : decode cX7_wishOf 36 = .ok (.aload_n 0, 1) := by decide +kernel
theorem dX7_wishOf_37 : decode cX7_wishOf 37 = .ok (.getfield 28, 3) := by decide +kernel
theorem dX7_wishOf_40 : decode cX7_wishOf 40 = .ok (.iload_n 1, 1) := by decide +kernel
theorem dX7_wishOf_41 : decode cX7_wishOf 41 = .ok (.iaload, 1) := by decide +kernel
theorem dX7_wishOf_42 : decode cX7_wishOf 42 = .ok (.iconst 3, 1) := by decide +kernel
theorem dX7_wishOf_43 : decode cX7_wishOf 43 = .ok (.if_icmp .ne 7, 3) := by decide +kernel
theorem dX7_wishOf_46 : decode cX7_wishOf 46 = .ok (.iconst 3, 1) := by decide +kernel
theorem dX7_wishOf_47 : decode cX7_wishOf 47 = .ok (.goto 4, 3) := by decide +kernel
theorem dX7_wishOf_50 : decode cX7_wishOf 50 = .ok (.iload_n 2, 1) := by decide +kernel
theorem dX7_wishOf_51 : decode cX7_wishOf 51 = .ok (.invokevirtual 181, 3) := by decide +kernel
theorem dX7_wishOf_54 : decode cX7_wishOf 54 = .ok (.istore_n 3, 1) := by decide +kernel
theorem dX7_wishOf_55 : decode cX7_wishOf 55 = .ok (.iload_n 3, 1) := by decide +kernel
theorem dX7_wishOf_56 : decode cX7_wishOf 56 = .ok (.bipush (-9), 2) := by decide +kernel
theorem dX7_wishOf_58 : decode cX7_wishOf 58 = .ok (.if_icmp .ne 7, 3) := by decide +kernel
theorem dX7_wishOf_61 : decode cX7_wishOf 61 = .ok (.iconst 0, 1) := by decide +kernel
theorem dX7_wishOf_62 : decode cX7_wishOf 62 = .ok (.goto 16, 3) := by decide +kernel
theorem dX7_wishOf_65 : decode cX7_wishOf 65 = .ok (.aload_n 0, 1) := by decide +kernel
theorem dX7_wishOf_66 : decode cX7_wishOf 66 = .ok (.getfield 40, 3) := by decide +kernel
theorem dX7_wishOf_69 : decode cX7_wishOf 69 = .ok (.iload_n 3, 1) := by decide +kernel
theorem dX7_wishOf_70 : decode cX7_wishOf 70 = .ok (.iaload, 1) := by decide +kernel
theorem dX7_wishOf_71 : decode cX7_wishOf 71 = .ok (.aload_n 0, 1) := by decide +kernel
theorem dX7_wishOf_72 : decode cX7_wishOf 72 = .ok (.getfield 31, 3) := by decide +kernel
theorem dX7_wishOf_75 : decode cX7_wishOf 75 = .ok (.iload_n 1, 1) := by decide +kernel
theorem dX7_wishOf_76 : decode cX7_wishOf 76 = .ok (.iaload, 1) := by decide +kernel
theorem dX7_wishOf_77 : decode cX7_wishOf 77 = .ok (.isub, 1) := by decide +kernel
theorem dX7_wishOf_78 : decode cX7_wishOf 78 = .ok (.istore 4, 2) := by decide +kernel
theorem dX7_wishOf_80 : decode cX7_wishOf 80 = .ok (.iload 4, 2) := by decide +kernel
theorem dX7_wishOf_82 : decode cX7_wishOf 82 = .ok (.ifCond .le 7, 3) := by decide +kernel
theorem dX7_wishOf_85 : decode cX7_wishOf 85 = .ok (.iconst 1, 1) := by decide +kernel
theorem dX7_wishOf_86 : decode cX7_wishOf 86 = .ok (.goto 13, 3) := by decide +kernel
theorem dX7_wishOf_89 : decode cX7_wishOf 89 = .ok (.iload 4, 2) := by decide +kernel
theorem dX7_wishOf_91 : decode cX7_wishOf 91 = .ok (.ifCond .ge 7, 3) := by decide +kernel
theorem dX7_wishOf_94 : decode cX7_wishOf 94 = .ok (.iconst (-1), 1) := by decide +kernel
theorem dX7_wishOf_95 : decode cX7_wishOf 95 = .ok (.goto 4, 3) := by decide +kernel
theorem dX7_wishOf_98 : decode cX7_wishOf 98 = .ok (.iconst 0, 1) := by decide +kernel
theorem dX7_wishOf_99 : decode cX7_wishOf 99 = .ok (.ireturn, 1) := by decide +kernel
theorem dX7_mark_0 : decode cX7_mark 0 = .ok (.aload_n 0, 1) := by decide +kernel
theorem dX7_mark_1 : decode cX7_mark 1 = .ok (.iload_n 1, 1) := by decide +kernel
theorem dX7_mark_2 : decode cX7_mark 2 = .ok (.invokevirtual 166, 3) := by decide +kernel
theorem dX7_mark_5 : decode cX7_mark 5 = .ok (.ifCond .eq 12, 3) := by decide +kernel
theorem dX7_mark_8 : decode cX7_mark 8 = .ok (.iload_n 2, 1) := by decide +kernel
theorem dX7_mark_9 : decode cX7_mark 9 = .ok (.iconst 1, 1) := by decide +kernel
theorem dX7_mark_10 : decode cX7_mark 10 = .ok (.iconst 5, 1) := by decide +kernel
theorem dX7_mark_11 : decode cX7_mark 11 = .ok (.invokestatic 83, 3) := by decide +kernel
theorem dX7_mark_14 : decode cX7_mark 14 = .ok (.ifCond .ne 5, 3) := by decide +kernel
theorem dX7_mark_17 : decode cX7_mark 17 = .ok (.iconst (-1), 1) := by decide +kernel
theorem dX7_mark_18 : decode cX7_mark 18 = .ok (.ireturn, 1) := by decide +kernel
theorem dX7_mark_19 : decode cX7_mark 19 = .ok (.aload_n 0, 1) := by decide +kernel
theorem dX7_mark_20 : decode cX7_mark 20 = .ok (.iload_n 1, 1) := by decide +kernel
theorem dX7_mark_21 : decode cX7_mark 21 = .ok (.iload_n 2, 1) := by decide +kernel
theorem dX7_mark_22 : decode cX7_mark 22 = .ok (.invokevirtual 185, 3) := by decide +kernel
theorem dX7_mark_25 : decode cX7_mark 25 = .ok (.ifCond .ne 9, 3) := by decide +kernel
theorem dX7_mark_28 : decode cX7_mark 28 = .ok (.aload_n 0, 1) := by decide +kernel
theorem dX7_mark_29 : decode cX7_mark 29 = .ok (.iconst 3, 1) := by decide +kernel
theorem dX7_mark_30 : decode cX7_mark 30 = .ok (.invokevirtual 91, 3) := by decide +kernel
theorem dX7_mark_33 : decode cX7_mark 33 = .ok (.ireturn, 1) := by decide +kernel
theorem dX7_mark_34 : decode cX7_mark 34 = .ok (.iconst 0, 1) := by decide +kernel
theorem dX7_mark_35 : decode cX7_mark 35 = .ok (.istore_n 3, 1) := by decide +kernel
theorem dX7_mark_36 : decode cX7_mark 36 = .ok (.iconst 0, 1) := by decide +kernel
theorem dX7_mark_37 : decode cX7_mark 37 = .ok (.istore 4, 2) := by decide +kernel
theorem dX7_mark_39 : decode cX7_mark 39 = .ok (.iload 4, 2) := by decide +kernel
theorem dX7_mark_41 : decode cX7_mark 41 = .ok (.aload_n 0, 1) := by decide +kernel
theorem dX7_mark_42 : decode cX7_mark 42 = .ok (.getfield 154, 3) := by decide +kernel
theorem dX7_mark_45 : decode cX7_mark 45 = .ok (.if_icmp .ge 41, 3) := by decide +kernel
theorem dX7_mark_48 : decode cX7_mark 48 = .ok (.iload_n 3, 1) := by decide +kernel
end
section
theorem dX7_mark_49 : decode cX7_mark 49 = .ok (.aload_n 0, 1) := by decide +kernel
theorem dX7_mark_50 : decode cX7_mark 50 = .ok (.getfield 40, 3) := by decide +kernel
theorem dX7_mark_53 : decode cX7_mark 53 = .ok (.iload 4, 2) := by decide +kernel
theorem dX7_mark_55 : decode cX7_mark 55 = .ok (.iaload, 1) := by decide +kernel
theorem dX7_mark_56 : decode cX7_mark 56 = .ok (.aload_n 0, 1) := by decide +kernel
theorem dX7_mark_57 : decode cX7_mark 57 = .ok (.getfield 31, 3) := by decide +kernel
theorem dX7_mark_60 : decode cX7_mark 60 = .ok (.iload_n 1, 1) := by decide +kernel
theorem dX7_mark_61 : decode cX7_mark 61 = .ok (.iaload, 1) := by decide +kernel
theorem dX7_mark_62 : decode cX7_mark 62 = .ok (.isub, 1) := by decide +kernel
theorem dX7_mark_63 : decode cX7_mark 63 = .ok (.invokestatic 178, 3) := by decide +kernel
theorem dX7_mark_66 : decode cX7_mark 66 = .ok (.aload_n 0, 1) := by decide +kernel
theorem dX7_mark_67 : decode cX7_mark 67 = .ok (.getfield 157, 3) := by decide +kernel
theorem dX7_mark_70 : decode cX7_mark 70 = .ok (.if_icmp .gt 7, 3) := by decide +kernel
theorem dX7_mark_73 : decode cX7_mark 73 = .ok (.iconst 1, 1) := by decide +kernel
theorem dX7_mark_74 : decode cX7_mark 74 = .ok (.goto 4, 3) := by decide +kernel
theorem dX7_mark_77 : decode cX7_mark 77 = .ok (.iconst 0, 1) := by decide +kernel
theorem dX7_mark_78 : decode cX7_mark 78 = .ok (.iadd, 1) := by decide +kernel
theorem dX7_mark_79 : decode cX7_mark 79 = .ok (.istore_n 3, 1) := by decide +kernel
theorem dX7_mark_80 : decode cX7_mark 80 = .ok (.iinc 4 1, 3) := by decide +kernel
theorem dX7_mark_83 : decode cX7_mark 83 = .ok (.goto (-44), 3) := by decide +kernel
theorem dX7_mark_86 : decode cX7_mark 86 = .ok (.iload_n 2, 1) := by decide +kernel
theorem dX7_mark_87 : decode cX7_mark 87 = .ok (.tableswitch 99 1 4 #[29, 54, 90, 97], 29) := by decide +kernel
theorem dX7_mark_116 : decode cX7_mark 116 = .ok (.aload_n 0, 1) := by decide +kernel
theorem dX7_mark_117 : decode cX7_mark 117 = .ok (.iload_n 1, 1) := by decide +kernel
theorem dX7_mark_118 : decode cX7_mark 118 = .ok (.iconst 1, 1) := by decide +kernel
theorem dX7_mark_119 : decode cX7_mark 119 = .ok (.invokevirtual 189, 3) := by decide +kernel
theorem dX7_mark_122 : decode cX7_mark 122 = .ok (.invokestatic 192, 3) := by decide +kernel
theorem dX7_mark_125 : decode cX7_mark 125 = .ok (.aload_n 0, 1) := by decide +kernel
theorem dX7_mark_126 : decode cX7_mark 126 = .ok (.iload_n 1, 1) := by decide +kernel
theorem dX7_mark_127 : decode cX7_mark 127 = .ok (.iconst 1, 1) := by decide +kernel
theorem dX7_mark_128 : decode cX7_mark 128 = .ok (.invokevirtual 189, 3) := by decide +kernel
theorem dX7_mark_131 : decode cX7_mark 131 = .ok (.ifCond .ne 7, 3) := by decide +kernel
theorem dX7_mark_134 : decode cX7_mark 134 = .ok (.iconst 0, 1) := by decide +kernel
theorem dX7_mark_135 : decode cX7_mark 135 = .ok (.goto 4, 3) := by decide +kernel
theorem dX7_mark_138 : decode cX7_mark 138 = .ok (.iconst 1, 1) := by decide +kernel
theorem dX7_mark_139 : decode cX7_mark 139 = .ok (.isub, 1) := by decide +kernel
theorem dX7_mark_140 : decode cX7_mark 140 = .ok (.ireturn, 1) := by decide +kernel
theorem dX7_mark_141 : decode cX7_mark 141 = .ok (.iload_n 1, 1) := by decide +kernel
theorem dX7_mark_142 : decode cX7_mark 142 = .ok (.ifCond .eq 13, 3) := by decide +kernel
theorem dX7_mark_145 : decode cX7_mark 145 = .ok (.iload_n 1, 1) := by decide +kernel
theorem dX7_mark_146 : decode cX7_mark 146 = .ok (.aload_n 0, 1) := by decide +kernel
theorem dX7_mark_147 : decode cX7_mark 147 = .ok (.getfield 151, 3) := by decide +kernel
theorem dX7_mark_150 : decode cX7_mark 150 = .ok (.iconst 1, 1) := by decide +kernel
theorem dX7_mark_151 : decode cX7_mark 151 = .ok (.isub, 1) := by decide +kernel
theorem dX7_mark_152 : decode cX7_mark 152 = .ok (.if_icmp .ne 7, 3) := by decide +kernel
theorem dX7_mark_155 : decode cX7_mark 155 = .ok (.iconst 0, 1) := by decide +kernel
theorem dX7_mark_156 : decode cX7_mark 156 = .ok (.goto 20, 3) := by decide +kernel
theorem dX7_mark_159 : decode cX7_mark 159 = .ok (.aload_n 0, 1) := by decide +kernel
theorem dX7_mark_160 : decode cX7_mark 160 = .ok (.getfield 31, 3) := by decide +kernel
theorem dX7_mark_163 : decode cX7_mark 163 = .ok (.iload_n 1, 1) := by decide +kernel
theorem dX7_mark_164 : decode cX7_mark 164 = .ok (.iconst 1, 1) := by decide +kernel
theorem dX7_mark_165 : decode cX7_mark 165 = .ok (.iadd, 1) := by decide +kernel
theorem dX7_mark_166 : decode cX7_mark 166 = .ok (.iaload, 1) := by decide +kernel
theorem dX7_mark_167 : decode cX7_mark 167 = .ok (.aload_n 0, 1) := by decide +kernel
theorem dX7_mark_168 : decode cX7_mark 168 = .ok (.getfield 31, 3) := by decide +kernel
theorem dX7_mark_171 : decode cX7_mark 171 = .ok (.iload_n 1, 1) := by decide +kernel
theorem dX7_mark_172 : decode cX7_mark 172 = .ok (.iconst 1, 1) := by decide +kernel
theorem dX7_mark_173 : decode cX7_mark 173 = .ok (.isub, 1) := by decide +kernel
theorem dX7_mark_174 : decode cX7_mark 174 = .ok (.iaload, 1) := by decide +kernel
theorem dX7_mark_175 : decode cX7_mark 175 = .ok (.isub, 1) := by decide +kernel
theorem dX7_mark_176 : decode cX7_mark 176 = .ok (.ireturn, 1) := by decide +kernel
theorem dX7_mark_177 : decode cX7_mark 177 = .ok (.aload_n 0, 1) := by decide +kernel
theorem dX7_mark_178 : decode cX7_mark 178 = .ok (.iload_n 1, 1) := by decide +kernel
theorem dX7_mark_179 : decode cX7_mark 179 = .ok (.iconst 3, 1) := by decide +kernel
theorem dX7_mark_180 : decode cX7_mark 180 = .ok (.invokevirtual 195, 3) := by decide +kernel
theorem dX7_mark_183 : decode cX7_mark 183 = .ok (.ireturn, 1) := by decide +kernel
theorem dX7_mark_184 : decode cX7_mark 184 = .ok (.iload_n 3, 1) := by decide +kernel
theorem dX7_mark_185 : decode cX7_mark 185 = .ok (.ireturn, 1) := by decide +kernel
theorem dX7_mark_186 : decode cX7_mark 186 = .ok (.aload_n 0, 1) := by decide +kernel
theorem dX7_mark_187 : decode cX7_mark 187 = .ok (.iload_n 1, 1) := by decide +kernel
theorem dX7_mark_188 : decode cX7_mark 188 = .ok (.aload_n 0, 1) := by decide +kernel
theorem dX7_mark_189 : decode cX7_mark 189 = .ok (.getfield 34, 3) := by decide +kernel
theorem dX7_mark_192 : decode cX7_mark 192 = .ok (.iload_n 1, 1) := by decide +kernel
theorem dX7_mark_193 : decode cX7_mark 193 = .ok (.iaload, 1) := by decide +kernel
theorem dX7_mark_194 : decode cX7_mark 194 = .ok (.invokevirtual 195, 3) := by decide +kernel
theorem dX7_mark_197 : decode cX7_mark 197 = .ok (.ireturn, 1) := by decide +kernel
theorem dX7_want_0 : decode cX7_want 0 = .ok (.aload_n 0, 1) := by decide +kernel
theorem dX7_want_1 : decode cX7_want 1 = .ok (.iload_n 1, 1) := by decide +kernel
theorem dX7_want_2 : decode cX7_want 2 = .ok (.invokevirtual 166, 3) := by decide +kernel
theorem dX7_want_5 : decode cX7_want 5 = .ok (.ifCond .eq 12, 3) := by decide +kernel
theorem dX7_want_8 : decode cX7_want 8 = .ok (.iload_n 2, 1) := by decide +kernel
theorem dX7_want_9 : decode cX7_want 9 = .ok (.iconst 0, 1) := by decide +kernel
theorem dX7_want_10 : decode cX7_want 10 = .ok (.iconst 4, 1) := by decide +kernel
theorem dX7_want_11 : decode cX7_want 11 = .ok (.invokestatic 83, 3) := by decide +kernel
theorem dX7_want_14 : decode cX7_want 14 = .ok (.ifCond .ne 5, 3) := by decide +kernel
theorem dX7_want_17 : decode cX7_want 17 = .ok (.iconst (-1), 1) := by decide +kernel
theorem dX7_want_18 : decode cX7_want 18 = .ok (.ireturn, 1) := by decide +kernel
theorem dX7_want_19 : decode cX7_want 19 = .ok (.aload_n 0, 1) := by decide +kernel
theorem dX7_want_20 : decode cX7_want 20 = .ok (.getfield 34, 3) := by decide +kernel
theorem dX7_want_23 : decode cX7_want 23 = .ok (.iload_n 1, 1) := by decide +kernel
theorem dX7_want_24 : decode cX7_want 24 = .ok (.iaload, 1) := by decide +kernel
theorem dX7_want_25 : decode cX7_want 25 = .ok (.istore_n 3, 1) := by decide +kernel
theorem dX7_want_26 : decode cX7_want 26 = .ok (.aload_n 0, 1) := by decide +kernel
theorem dX7_want_27 : decode cX7_want 27 = .ok (.getfield 34, 3) := by decide +kernel
theorem dX7_want_30 : decode cX7_want 30 = .ok (.iload_n 1, 1) := by decide +kernel
theorem dX7_want_31 : decode cX7_want 31 = .ok (.iload_n 2, 1) := by decide +kernel
theorem dX7_want_32 : decode cX7_want 32 = .ok (.iastore, 1) := by decide +kernel
theorem dX7_want_33 : decode cX7_want 33 = .ok (.iload_n 3, 1) := by decide +kernel
theorem dX7_want_34 : decode cX7_want 34 = .ok (.ireturn, 1) := by decide +kernel
theorem dX7_price_0 : decode cX7_price 0 = .ok (.aload_n 0, 1) := by decide +kernel
theorem dX7_price_1 : decode cX7_price 1 = .ok (.iload_n 1, 1) := by decide +kernel
theorem dX7_price_2 : decode cX7_price 2 = .ok (.invokevirtual 172, 3) := by decide +kernel
theorem dX7_price_5 : decode cX7_price 5 = .ok (.ifCond .eq 13, 3) := by decide +kernel
theorem dX7_price_8 : decode cX7_price 8 = .ok (.iload_n 2, 1) := by decide +kernel
theorem dX7_price_9 : decode cX7_price 9 = .ok (.iconst 0, 1) := by decide +kernel
theorem dX7_price_10 : decode cX7_price 10 = .ok (.bipush 99, 2) := by decide +kernel
theorem dX7_price_12 : decode cX7_price 12 = .ok (.invokestatic 83, 3) := by decide +kernel
theorem dX7_price_15 : decode cX7_price 15 = .ok (.ifCond .ne 5, 3) := by decide +kernel
theorem dX7_price_18 : decode cX7_price 18 = .ok (.iconst (-1), 1) := by decide +kernel
theorem dX7_price_19 : decode cX7_price 19 = .ok (.ireturn, 1) := by decide +kernel
theorem dX7_price_20 : decode cX7_price 20 = .ok (.aload_n 0, 1) := by decide +kernel
theorem dX7_price_21 : decode cX7_price 21 = .ok (.getfield 46, 3) := by decide +kernel
theorem dX7_price_24 : decode cX7_price 24 = .ok (.iload_n 1, 1) := by decide +kernel
theorem dX7_price_25 : decode cX7_price 25 = .ok (.iaload, 1) := by decide +kernel
theorem dX7_price_26 : decode cX7_price 26 = .ok (.istore_n 3, 1) := by decide +kernel
theorem dX7_price_27 : decode cX7_price 27 = .ok (.aload_n 0, 1) := by decide +kernel
theorem dX7_price_28 : decode cX7_price 28 = .ok (.getfield 46, 3) := by decide +kernel
theorem dX7_price_31 : decode cX7_price 31 = .ok (.iload_n 1, 1) := by decide +kernel
theorem dX7_price_32 : decode cX7_price 32 = .ok (.iload_n 2, 1) := by decide +kernel
theorem dX7_price_33 : decode cX7_price 33 = .ok (.iastore, 1) := by decide +kernel
theorem dX7_price_34 : decode cX7_price 34 = .ok (.iload_n 3, 1) := by decide +kernel
theorem dX7_price_35 : decode cX7_price 35 = .ok (.ireturn, 1) := by decide +kernel
theorem dX7_wish_0 : decode cX7_wish 0 = .ok (.aload_n 0, 1) := by decide +kernel
theorem dX7_wish_1 : decode cX7_wish 1 = .ok (.iload_n 1, 1) := by decide +kernel
theorem dX7_wish_2 : decode cX7_wish 2 = .ok (.invokevirtual 166, 3) := by decide +kernel
theorem dX7_wish_5 : decode cX7_wish 5 = .ok (.ifCond .eq 16, 3) := by decide +kernel
theorem dX7_wish_8 : decode cX7_wish 8 = .ok (.aload_n 0, 1) := by decide +kernel
theorem dX7_wish_9 : decode cX7_wish 9 = .ok (.aload_n 0, 1) := by decide +kernel
theorem dX7_wish_10 : decode cX7_wish 10 = .ok (.iload_n 1, 1) := by decide +kernel
theorem dX7_wish_11 : decode cX7_wish 11 = .ok (.invokevirtual 198, 3) := by decide +kernel
theorem dX7_wish_14 : decode cX7_wish 14 = .ok (.iconst 1, 1) := by decide +kernel
theorem dX7_wish_15 : decode cX7_wish 15 = .ok (.invokevirtual 109, 3) := by decide +kernel
theorem dX7_wish_18 : decode cX7_wish 18 = .ok (.goto 4, 3) := by decide +kernel
theorem dX7_wish_21 : decode cX7_wish 21 = .ok (.iconst (-1), 1) := by decide +kernel
theorem dX7_wish_22 : decode cX7_wish 22 = .ok (.ireturn, 1) := by decide +kernel
theorem dX7_isSpot_0 : decode cX7_isSpot 0 = .ok (.iload_n 0, 1) := by decide +kernel
theorem dX7_isSpot_1 : decode cX7_isSpot 1 = .ok (.iconst 0, 1) := by decide +kernel
theorem dX7_isSpot_2 : decode cX7_isSpot 2 = .ok (.bipush 19, 2) := by decide +kernel
theorem dX7_isSpot_4 : decode cX7_isSpot 4 = .ok (.invokestatic 83, 3) := by decide +kernel
theorem dX7_isSpot_7 : decode cX7_isSpot 7 = .ok (.ireturn, 1) := by decide +kernel
theorem dX7_isHeld_0 : decode cX7_isHeld 0 = .ok (.aload_n 0, 1) := by decide +kernel
theorem dX7_isHeld_1 : decode cX7_isHeld 1 = .ok (.getfield 28, 3) := by decide +kernel
theorem dX7_isHeld_4 : decode cX7_isHeld 4 = .ok (.iload_n 1, 1) := by decide +kernel
theorem dX7_isHeld_5 : decode cX7_isHeld 5 = .ok (.iaload, 1) := by decide +kernel
theorem dX7_isHeld_6 : decode cX7_isHeld 6 = .ok (.iconst 4, 1) := by decide +kernel
theorem dX7_isHeld_7 : decode cX7_isHeld 7 = .ok (.if_icmp .eq 15, 3) := by decide +kernel
theorem dX7_isHeld_10 : decode cX7_isHeld 10 = .ok (.aload_n 0, 1) := by decide +kernel
theorem dX7_isHeld_11 : decode cX7_isHeld 11 = .ok (.getfield 28, 3) := by decide +kernel
theorem dX7_isHeld_14 : decode cX7_isHeld 14 = .ok (.iload_n 1, 1) := by decide +kernel
theorem dX7_isHeld_15 : decode cX7_isHeld 15 = .ok (.iconst 1, 1) := by decide +kernel
theorem dX7_isHeld_16 : decode cX7_isHeld 16 = .ok (.iadd, 1) := by decide +kernel
theorem dX7_isHeld_17 : decode cX7_isHeld 17 = .ok (.iaload, 1) := by decide +kernel
theorem dX7_isHeld_18 : decode cX7_isHeld 18 = .ok (.iconst 4, 1) := by decide +kernel
theorem dX7_isHeld_19 : decode cX7_isHeld 19 = .ok (.if_icmp .ne 7, 3) := by decide +kernel
theorem dX7_isHeld_22 : decode cX7_isHeld 22 = .ok (.iconst 1, 1) := by decide +kernel
theorem dX7_isHeld_23 : decode cX7_isHeld 23 = .ok (.goto 4, 3) := by decide +kernel
theorem dX7_isHeld_26 : decode cX7_isHeld 26 = .ok (.iconst 0, 1) := by decide +kernel
theorem dX7_isHeld_27 : decode cX7_isHeld 27 = .ok (.istore 4, 2) := by decide +kernel
theorem dX7_isHeld_29 : decode cX7_isHeld 29 = .ok (.iload_n 3, 1) := by decide +kernel
theorem dX7_isHeld_30 : decode cX7_isHeld 30 = .ok (.iload_n 2, 1) := by decide +kernel
theorem dX7_isHeld_31 : decode cX7_isHeld 31 = .ok (.if_icmp .le 22, 3) := by decide +kernel
theorem dX7_isHeld_34 : decode cX7_isHeld 34 = .ok (.iload 4, 2) := by decide +kernel
theorem dX7_isHeld_36 : decode cX7_isHeld 36 = .ok (.ifCond .ne 13, 3) := by decide +kernel
theorem dX7_isHeld_39 : decode cX7_isHeld 39 = .ok (.iload_n 3, 1) := by decide +kernel
theorem dX7_isHeld_40 : decode cX7_isHeld 40 = .ok (.iload_n 2, 1) := by decide +kernel
theorem dX7_isHeld_41 : decode cX7_isHeld 41 = .ok (.isub, 1) := by decide +kernel
theorem dX7_isHeld_42 : decode cX7_isHeld 42 = .ok (.aload_n 0, 1) := by decide +kernel
theorem dX7_isHeld_43 : decode cX7_isHeld 43 = .ok (.getfield 157, 3) := by decide +kernel
theorem dX7_isHeld_46 : decode cX7_isHeld 46 = .ok (.if_icmp .gt 7, 3) := by decide +kernel
theorem dX7_isHeld_49 : decode cX7_isHeld 49 = .ok (.iconst 1, 1) := by decide +kernel
theorem dX7_isHeld_50 : decode cX7_isHeld 50 = .ok (.goto 4, 3) := by decide +kernel
theorem dX7_isHeld_53 : decode cX7_isHeld 53 = .ok (.iconst 0, 1) := by decide +kernel
theorem dX7_isHeld_54 : decode cX7_isHeld 54 = .ok (.ireturn, 1) := by decide +kernel
theorem dX7_stepPlain_0 : decode cX7_stepPlain 0 = .ok (.aload_n 0, 1) := by decide +kernel
theorem dX7_stepPlain_1 : decode cX7_stepPlain 1 = .ok (.getfield 31, 3) := by decide +kernel
theorem dX7_stepPlain_4 : decode cX7_stepPlain 4 = .ok (.iload_n 1, 1) := by decide +kernel
theorem dX7_stepPlain_5 : decode cX7_stepPlain 5 = .ok (.iaload, 1) := by decide +kernel
theorem dX7_stepPlain_6 : decode cX7_stepPlain 6 = .ok (.iload_n 2, 1) := by decide +kernel
theorem dX7_stepPlain_7 : decode cX7_stepPlain 7 = .ok (.iadd, 1) := by decide +kernel
theorem dX7_stepPlain_8 : decode cX7_stepPlain 8 = .ok (.istore_n 3, 1) := by decide +kernel
theorem dX7_stepPlain_9 : decode cX7_stepPlain 9 = .ok (.iload_n 1, 1) := by decide +kernel
theorem dX7_stepPlain_10 : decode cX7_stepPlain 10 = .ok (.ifCond .eq 22, 3) := by decide +kernel
theorem dX7_stepPlain_13 : decode cX7_stepPlain 13 = .ok (.aload_n 0, 1) := by decide +kernel
theorem dX7_stepPlain_14 : decode cX7_stepPlain 14 = .ok (.iload_n 1, 1) := by decide +kernel
theorem dX7_stepPlain_15 : decode cX7_stepPlain 15 = .ok (.iconst 1, 1) := by decide +kernel
theorem dX7_stepPlain_16 : decode cX7_stepPlain 16 = .ok (.isub, 1) := by decide +kernel
theorem dX7_stepPlain_17 : decode cX7_stepPlain 17 = .ok (.aload_n 0, 1) := by decide +kernel
theorem dX7_stepPlain_18 : decode cX7_stepPlain 18 = .ok (.getfield 31, 3) := by decide +kernel
theorem dX7_stepPlain_21 : decode cX7_stepPlain 21 = .ok (.iload_n 1, 1) := by decide +kernel
theorem dX7_stepPlain_22 : decode cX7_stepPlain 22 = .ok (.iconst 1, 1) := by decide +kernel
theorem dX7_stepPlain_23 : decode cX7_stepPlain 23 = .ok (.isub, 1) := by decide +kernel
theorem dX7_stepPlain_24 : decode cX7_stepPlain 24 = .ok (.iaload, 1) := by decide +kernel
theorem dX7_stepPlain_25 : decode cX7_stepPlain 25 = .ok (.iload_n 3, 1) := by decide +kernel
theorem dX7_stepPlain_26 : decode cX7_stepPlain 26 = .ok (.invokevirtual 201, 3) := by decide +kernel
theorem dX7_stepPlain_29 : decode cX7_stepPlain 29 = .ok (.ifCond .eq 7, 3) := by decide +kernel
theorem dX7_stepPlain_32 : decode cX7_stepPlain 32 = .ok (.iconst 1, 1) := by decide +kernel
theorem dX7_stepPlain_33 : decode cX7_stepPlain 33 = .ok (.goto 4, 3) := by decide +kernel
theorem dX7_stepPlain_36 : decode cX7_stepPlain 36 = .ok (.iconst 0, 1) := by decide +kernel
theorem dX7_stepPlain_37 : decode cX7_stepPlain 37 = .ok (.istore 4, 2) := by decide +kernel
theorem dX7_stepPlain_39 : decode cX7_stepPlain 39 = .ok (.iload_n 1, 1) := by decide +kernel
theorem dX7_stepPlain_40 : decode cX7_stepPlain 40 = .ok (.aload_n 0, 1) := by decide +kernel
theorem dX7_stepPlain_41 : decode cX7_stepPlain 41 = .ok (.getfield 151, 3) := by decide +kernel
theorem dX7_stepPlain_44 : decode cX7_stepPlain 44 = .ok (.iconst 1, 1) := by decide +kernel
theorem dX7_stepPlain_45 : decode cX7_stepPlain 45 = .ok (.isub, 1) := by decide +kernel
theorem dX7_stepPlain_46 : decode cX7_stepPlain 46 = .ok (.if_icmp .eq 20, 3) := by decide +kernel
theorem dX7_stepPlain_49 : decode cX7_stepPlain 49 = .ok (.aload_n 0, 1) := by decide +kernel
theorem dX7_stepPlain_50 : decode cX7_stepPlain 50 = .ok (.iload_n 1, 1) := by decide +kernel
theorem dX7_stepPlain_51 : decode cX7_stepPlain 51 = .ok (.iload_n 3, 1) := by decide +kernel
theorem dX7_stepPlain_52 : decode cX7_stepPlain 52 = .ok (.aload_n 0, 1) := by decide +kernel
theorem dX7_stepPlain_53 : decode cX7_stepPlain 53 = .ok (.getfield 31, 3) := by decide +kernel
theorem dX7_stepPlain_56 : decode cX7_stepPlain 56 = .ok (.iload_n 1, 1) := by decide +kernel
theorem dX7_stepPlain_57 : decode cX7_stepPlain 57 = .ok (.iconst 1, 1) := by decide +kernel
theorem dX7_stepPlain_58 : decode cX7_stepPlain 58 = .ok (.iadd, 1) := by decide +kernel
theorem dX7_stepPlain_59 : decode cX7_stepPlain 59 = .ok (.iaload, 1) := by decide +kernel
theorem dX7_stepPlain_60 : decode cX7_stepPlain 60 = .ok (.invokevirtual 201, 3) := by decide +kernel
theorem dX7_stepPlain_63 : decode cX7_stepPlain 63 = .ok (.ifCond .eq 7, 3) := by decide +kernel
theorem dX7_stepPlain_66 : decode cX7_stepPlain 66 = .ok (.iconst 1, 1) := by decide +kernel
theorem dX7_stepPlain_67 : decode cX7_stepPlain 67 = .ok (.goto 4, 3) := by decide +kernel
theorem dX7_stepPlain_70 : decode cX7_stepPlain 70 = .ok (.iconst 0, 1) := by decide +kernel
theorem dX7_stepPlain_71 : decode cX7_stepPlain 71 = .ok (.istore 5, 2) := by decide +kernel
theorem dX7_stepPlain_73 : decode cX7_stepPlain 73 = .ok (.iload_n 3, 1) := by decide +kernel
theorem dX7_stepPlain_74 : decode cX7_stepPlain 74 = .ok (.invokestatic 204, 3) := by decide +kernel
theorem dX7_stepPlain_77 : decode cX7_stepPlain 77 = .ok (.ifCond .eq 20, 3) := by decide +kernel
theorem dX7_stepPlain_80 : decode cX7_stepPlain 80 = .ok (.iload 4, 2) := by decide +kernel
theorem dX7_stepPlain_82 : decode cX7_stepPlain 82 = .ok (.ifCond .eq 15, 3) := by decide +kernel
theorem dX7_stepPlain_85 : decode cX7_stepPlain 85 = .ok (.iload 5, 2) := by decide +kernel
theorem dX7_stepPlain_87 : decode cX7_stepPlain 87 = .ok (.ifCond .eq 10, 3) := by decide +kernel
theorem dX7_stepPlain_90 : decode cX7_stepPlain 90 = .ok (.aload_n 0, 1) := by decide +kernel
theorem dX7_stepPlain_91 : decode cX7_stepPlain 91 = .ok (.getfield 31, 3) := by decide +kernel
theorem dX7_stepPlain_94 : decode cX7_stepPlain 94 = .ok (.iload_n 1, 1) := by decide +kernel
theorem dX7_stepPlain_95 : decode cX7_stepPlain 95 = .ok (.iload_n 3, 1) := by decide +kernel
theorem dX7_stepPlain_96 : decode cX7_stepPlain 96 = .ok (.iastore, 1) := by decide +kernel
theorem dX7_stepPlain_97 : decode cX7_stepPlain 97 = .ok (.return_, 1) := by decide +kernel
theorem dX7_goers_0 : decode cX7_goers 0 = .ok (.iconst 1, 1) := by decide +kernel
theorem dX7_goers_1 : decode cX7_goers 1 = .ok (.iload_n 1, 1) := by decide +kernel
theorem dX7_goers_2 : decode cX7_goers 2 = .ok (.ishl, 1) := by decide +kernel
theorem dX7_goers_3 : decode cX7_goers 3 = .ok (.istore_n 3, 1) := by decide +kernel
theorem dX7_goers_4 : decode cX7_goers 4 = .ok (.iload_n 1, 1) := by decide +kernel
theorem dX7_goers_5 : decode cX7_goers 5 = .ok (.istore 4, 2) := by decide +kernel
theorem dX7_goers_7 : decode cX7_goers 7 = .ok (.iload 4, 2) := by decide +kernel
theorem dX7_goers_9 : decode cX7_goers 9 = .ok (.ifCond .le 45, 3) := by decide +kernel
theorem dX7_goers_12 : decode cX7_goers 12 = .ok (.aload_n 0, 1) := by decide +kernel
theorem dX7_goers_13 : decode cX7_goers 13 = .ok (.iload 4, 2) := by decide +kernel
theorem dX7_goers_15 : decode cX7_goers 15 = .ok (.iconst 1, 1) := by decide +kernel
theorem dX7_goers_16 : decode cX7_goers 16 = .ok (.isub, 1) := by decide +kernel
theorem dX7_goers_17 : decode cX7_goers 17 = .ok (.aload_n 0, 1) := by decide +kernel
theorem dX7_goers_18 : decode cX7_goers 18 = .ok (.getfield 31, 3) := by decide +kernel
theorem dX7_goers_21 : decode cX7_goers 21 = .ok (.iload 4, 2) := by decide +kernel
theorem dX7_goers_23 : decode cX7_goers 23 = .ok (.iconst 1, 1) := by decide +kernel
theorem dX7_goers_24 : decode cX7_goers 24 = .ok (.isub, 1) := by decide +kernel
theorem dX7_goers_25 : decode cX7_goers 25 = .ok (.iaload, 1) := by decide +kernel
theorem dX7_goers_26 : decode cX7_goers 26 = .ok (.aload_n 0, 1) := by decide +kernel
theorem dX7_goers_27 : decode cX7_goers 27 = .ok (.getfield 31, 3) := by decide +kernel
theorem dX7_goers_30 : decode cX7_goers 30 = .ok (.iload 4, 2) := by decide +kernel
theorem dX7_goers_32 : decode cX7_goers 32 = .ok (.iaload, 1) := by decide +kernel
theorem dX7_goers_33 : decode cX7_goers 33 = .ok (.iload_n 2, 1) := by decide +kernel
theorem dX7_goers_34 : decode cX7_goers 34 = .ok (.iadd, 1) := by decide +kernel
theorem dX7_goers_35 : decode cX7_goers 35 = .ok (.invokevirtual 201, 3) := by decide +kernel
theorem dX7_goers_38 : decode cX7_goers 38 = .ok (.ifCond .ne 16, 3) := by decide +kernel
theorem dX7_goers_41 : decode cX7_goers 41 = .ok (.iinc 4 (-1), 3) := by decide +kernel
theorem dX7_goers_44 : decode cX7_goers 44 = .ok (.iload_n 3, 1) := by decide +kernel
theorem dX7_goers_45 : decode cX7_goers 45 = .ok (.iconst 1, 1) := by decide +kernel
theorem dX7_goers_46 : decode cX7_goers 46 = .ok (.iload 4, 2) := by decide +kernel
theorem dX7_goers_48 : decode cX7_goers 48 = .ok (.ishl, 1) := by decide +kernel
theorem dX7_goers_49 : decode cX7_goers 49 = .ok (.ior, 1) := by decide +kernel
theorem dX7_goers_50 : decode cX7_goers 50 = .ok (.istore_n 3, 1) := by decide +kernel
theorem dX7_goers_51 : decode cX7_goers 51 = .ok (.goto (-44), 3) := by decide +kernel
theorem dX7_goers_54 : decode cX7_goers 54 = .ok (.iload_n 1, 1) := by decide +kernel
theorem dX7_goers_55 : decode cX7_goers 55 = .ok (.istore 4, 2) := by decide +kernel
theorem dX7_goers_57 : decode cX7_goers 57 = .ok (.iload 4, 2) := by decide +kernel
theorem dX7_goers_59 : decode cX7_goers 59 = .ok (.aload_n 0, 1) := by decide +kernel
theorem dX7_goers_60 : decode cX7_goers 60 = .ok (.getfield 151, 3) := by decide +kernel
theorem dX7_goers_63 : decode cX7_goers 63 = .ok (.iconst 1, 1) := by decide +kernel
theorem dX7_goers_64 : decode cX7_goers 64 = .ok (.isub, 1) := by decide +kernel
theorem dX7_goers_65 : decode cX7_goers 65 = .ok (.if_icmp .ge 43, 3) := by decide +kernel
theorem dX7_goers_68 : decode cX7_goers 68 = .ok (.aload_n 0, 1) := by decide +kernel
theorem dX7_goers_69 : decode cX7_goers 69 = .ok (.iload 4, 2) := by decide +kernel
theorem dX7_goers_71 : decode cX7_goers 71 = .ok (.aload_n 0, 1) := by decide +kernel
theorem dX7_goers_72 : decode cX7_goers 72 = .ok (.getfield 31, 3) := by decide +kernel
theorem dX7_goers_75 : decode cX7_goers 75 = .ok (.iload 4, 2) := by decide +kernel
theorem dX7_goers_77 : decode cX7_goers 77 = .ok (.iaload, 1) := by decide +kernel
theorem dX7_goers_78 : decode cX7_goers 78 = .ok (.iload_n 2, 1) := by decide +kernel
theorem dX7_goers_79 : decode cX7_goers 79 = .ok (.iadd, 1) := by decide +kernel
theorem dX7_goers_80 : decode cX7_goers 80 = .ok (.aload_n 0, 1) := by decide +kernel
theorem dX7_goers_81 : decode cX7_goers 81 = .ok (.getfield 31, 3) := by decide +kernel
theorem dX7_goers_84 : decode cX7_goers 84 = .ok (.iload 4, 2) := by decide +kernel
theorem dX7_goers_86 : decode cX7_goers 86 = .ok (.iconst 1, 1) := by decide +kernel
theorem dX7_goers_87 : decode cX7_goers 87 = .ok (.iadd, 1) := by decide +kernel
theorem dX7_goers_88 : decode cX7_goers 88 = .ok (.iaload, 1) := by decide +kernel
theorem dX7_goers_89 : decode cX7_goers 89 = .ok (.invokevirtual 201, 3) := by decide +kernel
theorem dX7_goers_92 : decode cX7_goers 92 = .ok (.ifCond .ne 16, 3) := by decide +kernel
theorem dX7_goers_95 : decode cX7_goers 95 = .ok (.iinc 4 1, 3) := by decide +kernel
theorem dX7_goers_98 : decode cX7_goers 98 = .ok (.iload_n 3, 1) := by decide +kernel
theorem dX7_goers_99 : decode cX7_goers 99 = .ok (.iconst 1, 1) := by decide +kernel
theorem dX7_goers_100 : decode cX7_goers 100 = .ok (.iload 4, 2) := by decide +kernel
theorem dX7_goers_102 : decode cX7_goers 102 = .ok (.ishl, 1) := by decide +kernel
theorem dX7_goers_103 : decode cX7_goers 103 = .ok (.ior, 1) := by decide +kernel
theorem dX7_goers_104 : decode cX7_goers 104 = .ok (.istore_n 3, 1) := by decide +kernel
theorem dX7_goers_105 : decode cX7_goers 105 = .ok (.goto (-48), 3) := by decide +kernel
theorem dX7_goers_108 : decode cX7_goers 108 = .ok (.iconst 0, 1) := by decide +kernel
theorem dX7_goers_109 : decode cX7_goers 109 = .ok (.istore 5, 2) := by decide +kernel
theorem dX7_goers_111 : decode cX7_goers 111 = .ok (.iload 5, 2) := by decide +kernel
theorem dX7_goers_113 : decode cX7_goers 113 = .ok (.aload_n 0, 1) := by decide +kernel
theorem dX7_goers_114 : decode cX7_goers 114 = .ok (.getfield 151, 3) := by decide +kernel
theorem dX7_goers_117 : decode cX7_goers 117 = .ok (.if_icmp .ge 51, 3) := by decide +kernel
theorem dX7_goers_120 : decode cX7_goers 120 = .ok (.iload_n 3, 1) := by decide +kernel
theorem dX7_goers_121 : decode cX7_goers 121 = .ok (.iload 5, 2) := by decide +kernel
theorem dX7_goers_123 : decode cX7_goers 123 = .ok (.invokestatic 207, 3) := by decide +kernel
theorem dX7_goers_126 : decode cX7_goers 126 = .ok (.ifCond .eq 36, 3) := by decide +kernel
theorem dX7_goers_129 : decode cX7_goers 129 = .ok (.aload_n 0, 1) := by decide +kernel
theorem dX7_goers_130 : decode cX7_goers 130 = .ok (.getfield 31, 3) := by decide +kernel
theorem dX7_goers_133 : decode cX7_goers 133 = .ok (.iload 5, 2) := by decide +kernel
theorem dX7_goers_135 : decode cX7_goers 135 = .ok (.iaload, 1) := by decide +kernel
theorem dX7_goers_136 : decode cX7_goers 136 = .ok (.iload_n 2, 1) := by decide +kernel
theorem dX7_goers_137 : decode cX7_goers 137 = .ok (.iadd, 1) := by decide +kernel
theorem dX7_goers_138 : decode cX7_goers 138 = .ok (.invokestatic 204, 3) := by decide +kernel
theorem dX7_goers_141 : decode cX7_goers 141 = .ok (.ifCond .eq 19, 3) := by decide +kernel
theorem dX7_goers_144 : decode cX7_goers 144 = .ok (.iload 5, 2) := by decide +kernel
theorem dX7_goers_146 : decode cX7_goers 146 = .ok (.iload_n 1, 1) := by decide +kernel
theorem dX7_goers_147 : decode cX7_goers 147 = .ok (.if_icmp .eq 15, 3) := by decide +kernel
theorem dX7_goers_150 : decode cX7_goers 150 = .ok (.aload_n 0, 1) := by decide +kernel
theorem dX7_goers_151 : decode cX7_goers 151 = .ok (.iload 5, 2) := by decide +kernel
theorem dX7_goers_153 : decode cX7_goers 153 = .ok (.iconst 1, 1) := by decide +kernel
theorem dX7_goers_154 : decode cX7_goers 154 = .ok (.invokevirtual 185, 3) := by decide +kernel
theorem dX7_goers_157 : decode cX7_goers 157 = .ok (.ifCond .eq 5, 3) := by decide +kernel
theorem dX7_goers_160 : decode cX7_goers 160 = .ok (.iconst 0, 1) := by decide +kernel
theorem dX7_goers_161 : decode cX7_goers 161 = .ok (.ireturn, 1) := by decide +kernel
theorem dX7_goers_162 : decode cX7_goers 162 = .ok (.iinc 5 1, 3) := by decide +kernel
theorem dX7_goers_165 : decode cX7_goers 165 = .ok (.goto (-54), 3) := by decide +kernel
theorem dX7_goers_168 : decode cX7_goers 168 = .ok (.iload_n 3, 1) := by decide +kernel
theorem dX7_goers_169 : decode cX7_goers 169 = .ok (.ireturn, 1) := by decide +kernel
theorem dX7_stepRich_0 : decode cX7_stepRich 0 = .ok (.aload_n 0, 1) := by decide +kernel
theorem dX7_stepRich_1 : decode cX7_stepRich 1 = .ok (.iload_n 1, 1) := by decide +kernel
theorem dX7_stepRich_2 : decode cX7_stepRich 2 = .ok (.invokevirtual 198, 3) := by decide +kernel
theorem dX7_stepRich_5 : decode cX7_stepRich 5 = .ok (.istore_n 2, 1) := by decide +kernel
theorem dX7_stepRich_6 : decode cX7_stepRich 6 = .ok (.iload_n 2, 1) := by decide +kernel
theorem dX7_stepRich_7 : decode cX7_stepRich 7 = .ok (.ifCond .ne 7, 3) := by decide +kernel
theorem dX7_stepRich_10 : decode cX7_stepRich 10 = .ok (.iconst 0, 1) := by decide +kernel
theorem dX7_stepRich_11 : decode cX7_stepRich 11 = .ok (.goto 9, 3) := by decide +kernel
theorem dX7_stepRich_14 : decode cX7_stepRich 14 = .ok (.aload_n 0, 1) := by decide +kernel
theorem dX7_stepRich_15 : decode cX7_stepRich 15 = .ok (.iload_n 1, 1) := by decide +kernel
theorem dX7_stepRich_16 : decode cX7_stepRich 16 = .ok (.iload_n 2, 1) := by decide +kernel
theorem dX7_stepRich_17 : decode cX7_stepRich 17 = .ok (.invokevirtual 189, 3) := by decide +kernel
theorem dX7_stepRich_20 : decode cX7_stepRich 20 = .ok (.istore_n 3, 1) := by decide +kernel
theorem dX7_stepRich_21 : decode cX7_stepRich 21 = .ok (.iconst 0, 1) := by decide +kernel
theorem dX7_stepRich_22 : decode cX7_stepRich 22 = .ok (.istore 4, 2) := by decide +kernel
theorem dX7_stepRich_24 : decode cX7_stepRich 24 = .ok (.iload 4, 2) := by decide +kernel
theorem dX7_stepRich_26 : decode cX7_stepRich 26 = .ok (.aload_n 0, 1) := by decide +kernel
theorem dX7_stepRich_27 : decode cX7_stepRich 27 = .ok (.getfield 151, 3) := by decide +kernel
theorem dX7_stepRich_30 : decode cX7_stepRich 30 = .ok (.if_icmp .ge 33, 3) := by decide +kernel
theorem dX7_stepRich_33 : decode cX7_stepRich 33 = .ok (.aload_n 0, 1) := by decide +kernel
theorem dX7_stepRich_34 : decode cX7_stepRich 34 = .ok (.getfield 31, 3) := by decide +kernel
theorem dX7_stepRich_37 : decode cX7_stepRich 37 = .ok (.iload 4, 2) := by decide +kernel
theorem dX7_stepRich_39 : decode cX7_stepRich 39 = .ok (.dup2, 1) := by decide +kernel
theorem dX7_stepRich_40 : decode cX7_stepRich 40 = .ok (.iaload, 1) := by decide +kernel
theorem dX7_stepRich_41 : decode cX7_stepRich 41 = .ok (.iload_n 3, 1) := by decide +kernel
theorem dX7_stepRich_42 : decode cX7_stepRich 42 = .ok (.iload 4, 2) := by decide +kernel
theorem dX7_stepRich_44 : decode cX7_stepRich 44 = .ok (.invokestatic 207, 3) := by decide +kernel
theorem dX7_stepRich_47 : decode cX7_stepRich 47 = .ok (.ifCond .eq 7, 3) := by decide +kernel
theorem dX7_stepRich_50 : decode cX7_stepRich 50 = .ok (.iload_n 2, 1) := by decide +kernel
theorem dX7_stepRich_51 : decode cX7_stepRich 51 = .ok (.goto 4, 3) := by decide +kernel
theorem dX7_stepRich_54 : decode cX7_stepRich 54 = .ok (.iconst 0, 1) := by decide +kernel
theorem dX7_stepRich_55 : decode cX7_stepRich 55 = .ok (.iadd, 1) := by decide +kernel
theorem dX7_stepRich_56 : decode cX7_stepRich 56 = .ok (.iastore, 1) := by decide +kernel
theorem dX7_stepRich_57 : decode cX7_stepRich 57 = .ok (.iinc 4 1, 3) := by decide +kernel
theorem dX7_stepRich_60 : decode cX7_stepRich 60 = .ok (.goto (-36), 3) := by decide +kernel
theorem dX7_stepRich_63 : decode cX7_stepRich 63 = .ok (.return_, 1) := by decide +kernel
theorem dX7_sunNow_0 : decode cX7_sunNow 0 = .ok (.aload_n 0, 1) := by decide +kernel
theorem dX7_sunNow_1 : decode cX7_sunNow 1 = .ok (.getfield 160, 3) := by decide +kernel
theorem dX7_sunNow_4 : decode cX7_sunNow 4 = .ok (.bipush 7, 2) := by decide +kernel
theorem dX7_sunNow_6 : decode cX7_sunNow 6 = .ok (.irem, 1) := by decide +kernel
theorem dX7_sunNow_7 : decode cX7_sunNow 7 = .ok (.iconst 3, 1) := by decide +kernel
theorem dX7_sunNow_8 : decode cX7_sunNow 8 = .ok (.isub, 1) := by decide +kernel
theorem dX7_sunNow_9 : decode cX7_sunNow 9 = .ok (.ireturn, 1) := by decide +kernel
theorem dX7_isShaded_0 : decode cX7_isShaded 0 = .ok (.aload_n 0, 1) := by decide +kernel
theorem dX7_isShaded_1 : decode cX7_isShaded 1 = .ok (.getfield 151, 3) := by decide +kernel
theorem dX7_isShaded_4 : decode cX7_isShaded 4 = .ok (.ifCond .le 33, 3) := by decide +kernel
theorem dX7_isShaded_7 : decode cX7_isShaded 7 = .ok (.iload_n 1, 1) := by decide +kernel
theorem dX7_isShaded_8 : decode cX7_isShaded 8 = .ok (.iload_n 2, 1) := by decide +kernel
theorem dX7_isShaded_9 : decode cX7_isShaded 9 = .ok (.isub, 1) := by decide +kernel
theorem dX7_isShaded_10 : decode cX7_isShaded 10 = .ok (.aload_n 0, 1) := by decide +kernel
theorem dX7_isShaded_11 : decode cX7_isShaded 11 = .ok (.getfield 31, 3) := by decide +kernel
theorem dX7_isShaded_14 : decode cX7_isShaded 14 = .ok (.iconst 0, 1) := by decide +kernel
theorem dX7_isShaded_15 : decode cX7_isShaded 15 = .ok (.iaload, 1) := by decide +kernel
theorem dX7_isShaded_16 : decode cX7_isShaded 16 = .ok (.aload_n 0, 1) := by decide +kernel
theorem dX7_isShaded_17 : decode cX7_isShaded 17 = .ok (.getfield 31, 3) := by decide +kernel
theorem dX7_isShaded_20 : decode cX7_isShaded 20 = .ok (.aload_n 0, 1) := by decide +kernel
theorem dX7_isShaded_21 : decode cX7_isShaded 21 = .ok (.getfield 151, 3) := by decide +kernel
theorem dX7_isShaded_24 : decode cX7_isShaded 24 = .ok (.iconst 1, 1) := by decide +kernel
theorem dX7_isShaded_25 : decode cX7_isShaded 25 = .ok (.isub, 1) := by decide +kernel
theorem dX7_isShaded_26 : decode cX7_isShaded 26 = .ok (.iaload, 1) := by decide +kernel
theorem dX7_isShaded_27 : decode cX7_isShaded 27 = .ok (.invokestatic 83, 3) := by decide +kernel
theorem dX7_isShaded_30 : decode cX7_isShaded 30 = .ok (.ifCond .eq 7, 3) := by decide +kernel
theorem dX7_isShaded_33 : decode cX7_isShaded 33 = .ok (.iconst 1, 1) := by decide +kernel
theorem dX7_isShaded_34 : decode cX7_isShaded 34 = .ok (.goto 4, 3) := by decide +kernel
theorem dX7_isShaded_37 : decode cX7_isShaded 37 = .ok (.iconst 0, 1) := by decide +kernel
theorem dX7_isShaded_38 : decode cX7_isShaded 38 = .ok (.ireturn, 1) := by decide +kernel
theorem dX7_passMinute_0 : decode cX7_passMinute 0 = .ok (.iconst 0, 1) := by decide +kernel
theorem dX7_passMinute_1 : decode cX7_passMinute 1 = .ok (.istore_n 3, 1) := by decide +kernel
theorem dX7_passMinute_2 : decode cX7_passMinute 2 = .ok (.iload_n 3, 1) := by decide +kernel
theorem dX7_passMinute_3 : decode cX7_passMinute 3 = .ok (.aload_n 0, 1) := by decide +kernel
theorem dX7_passMinute_4 : decode cX7_passMinute 4 = .ok (.getfield 151, 3) := by decide +kernel
theorem dX7_passMinute_7 : decode cX7_passMinute 7 = .ok (.if_icmp .ge 38, 3) := by decide +kernel
theorem dX7_passMinute_10 : decode cX7_passMinute 10 = .ok (.aload_n 0, 1) := by decide +kernel
theorem dX7_passMinute_11 : decode cX7_passMinute 11 = .ok (.iload_n 3, 1) := by decide +kernel
theorem dX7_passMinute_12 : decode cX7_passMinute 12 = .ok (.iconst 1, 1) := by decide +kernel
theorem dX7_passMinute_13 : decode cX7_passMinute 13 = .ok (.invokevirtual 185, 3) := by decide +kernel
theorem dX7_passMinute_16 : decode cX7_passMinute 16 = .ok (.ifCond .eq 23, 3) := by decide +kernel
theorem dX7_passMinute_19 : decode cX7_passMinute 19 = .ok (.aload_n 0, 1) := by decide +kernel
theorem dX7_passMinute_20 : decode cX7_passMinute 20 = .ok (.iload_n 3, 1) := by decide +kernel
theorem dX7_passMinute_21 : decode cX7_passMinute 21 = .ok (.invokevirtual 210, 3) := by decide +kernel
theorem dX7_passMinute_24 : decode cX7_passMinute 24 = .ok (.aload_n 0, 1) := by decide +kernel
theorem dX7_passMinute_25 : decode cX7_passMinute 25 = .ok (.getfield 28, 3) := by decide +kernel
theorem dX7_passMinute_28 : decode cX7_passMinute 28 = .ok (.iload_n 3, 1) := by decide +kernel
theorem dX7_passMinute_29 : decode cX7_passMinute 29 = .ok (.iaload, 1) := by decide +kernel
theorem dX7_passMinute_30 : decode cX7_passMinute 30 = .ok (.iconst 5, 1) := by decide +kernel
theorem dX7_passMinute_31 : decode cX7_passMinute 31 = .ok (.if_icmp .ne 8, 3) := by decide +kernel
theorem dX7_passMinute_34 : decode cX7_passMinute 34 = .ok (.aload_n 0, 1) := by decide +kernel
theorem dX7_passMinute_35 : decode cX7_passMinute 35 = .ok (.iload_n 3, 1) := by decide +kernel
theorem dX7_passMinute_36 : decode cX7_passMinute 36 = .ok (.invokevirtual 210, 3) := by decide +kernel
theorem dX7_passMinute_39 : decode cX7_passMinute 39 = .ok (.iinc 3 1, 3) := by decide +kernel
theorem dX7_passMinute_42 : decode cX7_passMinute 42 = .ok (.goto (-40), 3) := by decide +kernel
theorem dX7_passMinute_45 : decode cX7_passMinute 45 = .ok (.iconst 0, 1) := by decide +kernel
theorem dX7_passMinute_46 : decode cX7_passMinute 46 = .ok (.istore_n 3, 1) := by decide +kernel
theorem dX7_passMinute_47 : decode cX7_passMinute 47 = .ok (.iload_n 3, 1) := by decide +kernel
theorem dX7_passMinute_48 : decode cX7_passMinute 48 = .ok (.aload_n 0, 1) := by decide +kernel
theorem dX7_passMinute_49 : decode cX7_passMinute 49 = .ok (.getfield 151, 3) := by decide +kernel
theorem dX7_passMinute_52 : decode cX7_passMinute 52 = .ok (.if_icmp .ge 41, 3) := by decide +kernel
theorem dX7_passMinute_55 : decode cX7_passMinute 55 = .ok (.aload_n 0, 1) := by decide +kernel
theorem dX7_passMinute_56 : decode cX7_passMinute 56 = .ok (.iload_n 3, 1) := by decide +kernel
theorem dX7_passMinute_57 : decode cX7_passMinute 57 = .ok (.iconst 1, 1) := by decide +kernel
theorem dX7_passMinute_58 : decode cX7_passMinute 58 = .ok (.invokevirtual 185, 3) := by decide +kernel
theorem dX7_passMinute_61 : decode cX7_passMinute 61 = .ok (.ifCond .eq 7, 3) := by decide +kernel
theorem dX7_passMinute_64 : decode cX7_passMinute 64 = .ok (.iconst 0, 1) := by decide +kernel
theorem dX7_passMinute_65 : decode cX7_passMinute 65 = .ok (.goto 8, 3) := by decide +kernel
theorem dX7_passMinute_68 : decode cX7_passMinute 68 = .ok (.aload_n 0, 1) := by decide +kernel
theorem dX7_passMinute_69 : decode cX7_passMinute 69 = .ok (.iload_n 3, 1) := by decide +kernel
theorem dX7_passMinute_70 : decode cX7_passMinute 70 = .ok (.invokevirtual 198, 3) := by decide +kernel
theorem dX7_passMinute_73 : decode cX7_passMinute 73 = .ok (.istore 4, 2) := by decide +kernel
theorem dX7_passMinute_75 : decode cX7_passMinute 75 = .ok (.iload 4, 2) := by decide +kernel
theorem dX7_passMinute_77 : decode cX7_passMinute 77 = .ok (.ifCond .eq 10, 3) := by decide +kernel
theorem dX7_passMinute_80 : decode cX7_passMinute 80 = .ok (.aload_n 0, 1) := by decide +kernel
theorem dX7_passMinute_81 : decode cX7_passMinute 81 = .ok (.iload_n 3, 1) := by decide +kernel
theorem dX7_passMinute_82 : decode cX7_passMinute 82 = .ok (.iload 4, 2) := by decide +kernel
theorem dX7_passMinute_84 : decode cX7_passMinute 84 = .ok (.invokevirtual 214, 3) := by decide +kernel
theorem dX7_passMinute_87 : decode cX7_passMinute 87 = .ok (.iinc 3 1, 3) := by decide +kernel
theorem dX7_passMinute_90 : decode cX7_passMinute 90 = .ok (.goto (-43), 3) := by decide +kernel
theorem dX7_passMinute_93 : decode cX7_passMinute 93 = .ok (.aload_n 0, 1) := by decide +kernel
theorem dX7_passMinute_94 : decode cX7_passMinute 94 = .ok (.dup, 1) := by decide +kernel
theorem dX7_passMinute_95 : decode cX7_passMinute 95 = .ok (.getfield 160, 3) := by decide +kernel
theorem dX7_passMinute_98 : decode cX7_passMinute 98 = .ok (.iconst 1, 1) := by decide +kernel
theorem dX7_passMinute_99 : decode cX7_passMinute 99 = .ok (.iadd, 1) := by decide +kernel
theorem dX7_passMinute_100 : decode cX7_passMinute 100 = .ok (.putfield 160, 3) := by decide +kernel
theorem dX7_passMinute_103 : decode cX7_passMinute 103 = .ok (.aload_n 0, 1) := by decide +kernel
theorem dX7_passMinute_104 : decode cX7_passMinute 104 = .ok (.iconst 0, 1) := by decide +kernel
theorem dX7_passMinute_105 : decode cX7_passMinute 105 = .ok (.putfield 218, 3) := by decide +kernel
theorem dX7_passMinute_108 : decode cX7_passMinute 108 = .ok (.aload_n 0, 1) := by decide +kernel
theorem dX7_passMinute_109 : decode cX7_passMinute 109 = .ok (.iconst 0, 1) := by decide +kernel
theorem dX7_passMinute_110 : decode cX7_passMinute 110 = .ok (.putfield 221, 3) := by decide +kernel
theorem dX7_passMinute_113 : decode cX7_passMinute 113 = .ok (.iconst 0, 1) := by decide +kernel
theorem dX7_passMinute_114 : decode cX7_passMinute 114 = .ok (.istore_n 3, 1) := by decide +kernel
theorem dX7_passMinute_115 : decode cX7_passMinute 115 = .ok (.iload_n 3, 1) := by decide +kernel
theorem dX7_passMinute_116 : decode cX7_passMinute 116 = .ok (.aload_n 0, 1) := by decide +kernel
theorem dX7_passMinute_117 : decode cX7_passMinute 117 = .ok (.getfield 151, 3) := by decide +kernel
theorem dX7_passMinute_120 : decode cX7_passMinute 120 = .ok (.if_icmp .ge 109, 3) := by decide +kernel
theorem dX7_passMinute_123 : decode cX7_passMinute 123 = .ok (.aload_n 0, 1) := by decide +kernel
theorem dX7_passMinute_124 : decode cX7_passMinute 124 = .ok (.iload_n 3, 1) := by decide +kernel
theorem dX7_passMinute_125 : decode cX7_passMinute 125 = .ok (.aload_n 0, 1) := by decide +kernel
theorem dX7_passMinute_126 : decode cX7_passMinute 126 = .ok (.invokevirtual 224, 3) := by decide +kernel
theorem dX7_passMinute_129 : decode cX7_passMinute 129 = .ok (.iload_n 1, 1) := by decide +kernel
theorem dX7_passMinute_130 : decode cX7_passMinute 130 = .ok (.iadd, 1) := by decide +kernel
theorem dX7_passMinute_131 : decode cX7_passMinute 131 = .ok (.invokevirtual 228, 3) := by decide +kernel
theorem dX7_passMinute_134 : decode cX7_passMinute 134 = .ok (.istore 4, 2) := by decide +kernel
theorem dX7_passMinute_136 : decode cX7_passMinute 136 = .ok (.iload 4, 2) := by decide +kernel
theorem dX7_passMinute_138 : decode cX7_passMinute 138 = .ok (.bipush (-9), 2) := by decide +kernel
theorem dX7_passMinute_140 : decode cX7_passMinute 140 = .ok (.if_icmp .eq 83, 3) := by decide +kernel
theorem dX7_passMinute_143 : decode cX7_passMinute 143 = .ok (.aload_n 0, 1) := by decide +kernel
theorem dX7_passMinute_144 : decode cX7_passMinute 144 = .ok (.dup, 1) := by decide +kernel
theorem dX7_passMinute_145 : decode cX7_passMinute 145 = .ok (.getfield 218, 3) := by decide +kernel
theorem dX7_passMinute_148 : decode cX7_passMinute 148 = .ok (.iconst 1, 1) := by decide +kernel
theorem dX7_passMinute_149 : decode cX7_passMinute 149 = .ok (.iload_n 3, 1) := by decide +kernel
theorem dX7_passMinute_150 : decode cX7_passMinute 150 = .ok (.ishl, 1) := by decide +kernel
theorem dX7_passMinute_151 : decode cX7_passMinute 151 = .ok (.ior, 1) := by decide +kernel
theorem dX7_passMinute_152 : decode cX7_passMinute 152 = .ok (.putfield 218, 3) := by decide +kernel
theorem dX7_passMinute_155 : decode cX7_passMinute 155 = .ok (.aload_n 0, 1) := by decide +kernel
theorem dX7_passMinute_156 : decode cX7_passMinute 156 = .ok (.dup, 1) := by decide +kernel
theorem dX7_passMinute_157 : decode cX7_passMinute 157 = .ok (.getfield 221, 3) := by decide +kernel
theorem dX7_passMinute_160 : decode cX7_passMinute 160 = .ok (.aload_n 0, 1) := by decide +kernel
theorem dX7_passMinute_161 : decode cX7_passMinute 161 = .ok (.getfield 46, 3) := by decide +kernel
theorem dX7_passMinute_164 : decode cX7_passMinute 164 = .ok (.iload 4, 2) := by decide +kernel
theorem dX7_passMinute_166 : decode cX7_passMinute 166 = .ok (.iaload, 1) := by decide +kernel
theorem dX7_passMinute_167 : decode cX7_passMinute 167 = .ok (.iadd, 1) := by decide +kernel
theorem dX7_passMinute_168 : decode cX7_passMinute 168 = .ok (.putfield 221, 3) := by decide +kernel
theorem dX7_passMinute_171 : decode cX7_passMinute 171 = .ok (.aload_n 0, 1) := by decide +kernel
theorem dX7_passMinute_172 : decode cX7_passMinute 172 = .ok (.getfield 37, 3) := by decide +kernel
theorem dX7_passMinute_175 : decode cX7_passMinute 175 = .ok (.iload_n 3, 1) := by decide +kernel
theorem dX7_passMinute_176 : decode cX7_passMinute 176 = .ok (.dup2, 1) := by decide +kernel
theorem dX7_passMinute_177 : decode cX7_passMinute 177 = .ok (.iaload, 1) := by decide +kernel
theorem dX7_passMinute_178 : decode cX7_passMinute 178 = .ok (.aload_n 0, 1) := by decide +kernel
theorem dX7_passMinute_179 : decode cX7_passMinute 179 = .ok (.getfield 46, 3) := by decide +kernel
theorem dX7_passMinute_182 : decode cX7_passMinute 182 = .ok (.iload 4, 2) := by decide +kernel
theorem dX7_passMinute_184 : decode cX7_passMinute 184 = .ok (.iaload, 1) := by decide +kernel
theorem dX7_passMinute_185 : decode cX7_passMinute 185 = .ok (.iadd, 1) := by decide +kernel
theorem dX7_passMinute_186 : decode cX7_passMinute 186 = .ok (.iastore, 1) := by decide +kernel
theorem dX7_passMinute_187 : decode cX7_passMinute 187 = .ok (.aload_n 0, 1) := by decide +kernel
theorem dX7_passMinute_188 : decode cX7_passMinute 188 = .ok (.getfield 49, 3) := by decide +kernel
theorem dX7_passMinute_191 : decode cX7_passMinute 191 = .ok (.iload 4, 2) := by decide +kernel
theorem dX7_passMinute_193 : decode cX7_passMinute 193 = .ok (.dup2, 1) := by decide +kernel
theorem dX7_passMinute_194 : decode cX7_passMinute 194 = .ok (.iaload, 1) := by decide +kernel
theorem dX7_passMinute_195 : decode cX7_passMinute 195 = .ok (.iconst 1, 1) := by decide +kernel
theorem dX7_passMinute_196 : decode cX7_passMinute 196 = .ok (.iadd, 1) := by decide +kernel
theorem dX7_passMinute_197 : decode cX7_passMinute 197 = .ok (.iastore, 1) := by decide +kernel
theorem dX7_passMinute_198 : decode cX7_passMinute 198 = .ok (.aload_n 0, 1) := by decide +kernel
theorem dX7_passMinute_199 : decode cX7_passMinute 199 = .ok (.getfield 34, 3) := by decide +kernel
theorem dX7_passMinute_202 : decode cX7_passMinute 202 = .ok (.iload_n 3, 1) := by decide +kernel
theorem dX7_passMinute_203 : decode cX7_passMinute 203 = .ok (.iconst 4, 1) := by decide +kernel
theorem dX7_passMinute_204 : decode cX7_passMinute 204 = .ok (.iastore, 1) := by decide +kernel
theorem dX7_passMinute_205 : decode cX7_passMinute 205 = .ok (.aload_n 0, 1) := by decide +kernel
theorem dX7_passMinute_206 : decode cX7_passMinute 206 = .ok (.iload_n 3, 1) := by decide +kernel
theorem dX7_passMinute_207 : decode cX7_passMinute 207 = .ok (.iload_n 2, 1) := by decide +kernel
theorem dX7_passMinute_208 : decode cX7_passMinute 208 = .ok (.if_icmp .ne 8, 3) := by decide +kernel
theorem dX7_passMinute_211 : decode cX7_passMinute 211 = .ok (.iload 4, 2) := by decide +kernel
theorem dX7_passMinute_213 : decode cX7_passMinute 213 = .ok (.goto 7, 3) := by decide +kernel
theorem dX7_passMinute_216 : decode cX7_passMinute 216 = .ok (.aload_n 0, 1) := by decide +kernel
theorem dX7_passMinute_217 : decode cX7_passMinute 217 = .ok (.getfield 231, 3) := by decide +kernel
theorem dX7_passMinute_220 : decode cX7_passMinute 220 = .ok (.putfield 231, 3) := by decide +kernel
theorem dX7_passMinute_223 : decode cX7_passMinute 223 = .ok (.iinc 3 1, 3) := by decide +kernel
theorem dX7_passMinute_226 : decode cX7_passMinute 226 = .ok (.goto (-111), 3) := by decide +kernel
theorem dX7_passMinute_229 : decode cX7_passMinute 229 = .ok (.return_, 1) := by decide +kernel
theorem dX7_boughtAt_0 : decode cX7_boughtAt 0 = .ok (.iconst 0, 1) := by decide +kernel
theorem dX7_boughtAt_1 : decode cX7_boughtAt 1 = .ok (.istore_n 3, 1) := by decide +kernel
theorem dX7_boughtAt_2 : decode cX7_boughtAt 2 = .ok (.iload_n 3, 1) := by decide +kernel
theorem dX7_boughtAt_3 : decode cX7_boughtAt 3 = .ok (.aload_n 0, 1) := by decide +kernel
theorem dX7_boughtAt_4 : decode cX7_boughtAt 4 = .ok (.getfield 154, 3) := by decide +kernel
theorem dX7_boughtAt_7 : decode cX7_boughtAt 7 = .ok (.if_icmp .ge 55, 3) := by decide +kernel
theorem dX7_boughtAt_10 : decode cX7_boughtAt 10 = .ok (.aload_n 0, 1) := by decide +kernel
theorem dX7_boughtAt_11 : decode cX7_boughtAt 11 = .ok (.getfield 40, 3) := by decide +kernel
theorem dX7_boughtAt_14 : decode cX7_boughtAt 14 = .ok (.iload_n 3, 1) := by decide +kernel
theorem dX7_boughtAt_15 : decode cX7_boughtAt 15 = .ok (.iaload, 1) := by decide +kernel
theorem dX7_boughtAt_16 : decode cX7_boughtAt 16 = .ok (.aload_n 0, 1) := by decide +kernel
theorem dX7_boughtAt_17 : decode cX7_boughtAt 17 = .ok (.getfield 31, 3) := by decide +kernel
theorem dX7_boughtAt_20 : decode cX7_boughtAt 20 = .ok (.iload_n 1, 1) := by decide +kernel
theorem dX7_boughtAt_21 : decode cX7_boughtAt 21 = .ok (.iaload, 1) := by decide +kernel
theorem dX7_boughtAt_22 : decode cX7_boughtAt 22 = .ok (.if_icmp .ne 34, 3) := by decide +kernel
theorem dX7_boughtAt_25 : decode cX7_boughtAt 25 = .ok (.aload_n 0, 1) := by decide +kernel
theorem dX7_boughtAt_26 : decode cX7_boughtAt 26 = .ok (.getfield 43, 3) := by decide +kernel
theorem dX7_boughtAt_29 : decode cX7_boughtAt 29 = .ok (.iload_n 3, 1) := by decide +kernel
theorem dX7_boughtAt_30 : decode cX7_boughtAt 30 = .ok (.iaload, 1) := by decide +kernel
theorem dX7_boughtAt_31 : decode cX7_boughtAt 31 = .ok (.aload_n 0, 1) := by decide +kernel
theorem dX7_boughtAt_32 : decode cX7_boughtAt 32 = .ok (.getfield 34, 3) := by decide +kernel
theorem dX7_boughtAt_35 : decode cX7_boughtAt 35 = .ok (.iload_n 1, 1) := by decide +kernel
theorem dX7_boughtAt_36 : decode cX7_boughtAt 36 = .ok (.iaload, 1) := by decide +kernel
theorem dX7_boughtAt_37 : decode cX7_boughtAt 37 = .ok (.if_icmp .ne 19, 3) := by decide +kernel
theorem dX7_boughtAt_40 : decode cX7_boughtAt 40 = .ok (.aload_n 0, 1) := by decide +kernel
theorem dX7_boughtAt_41 : decode cX7_boughtAt 41 = .ok (.aload_n 0, 1) := by decide +kernel
theorem dX7_boughtAt_42 : decode cX7_boughtAt 42 = .ok (.getfield 31, 3) := by decide +kernel
theorem dX7_boughtAt_45 : decode cX7_boughtAt 45 = .ok (.iload_n 1, 1) := by decide +kernel
theorem dX7_boughtAt_46 : decode cX7_boughtAt 46 = .ok (.iaload, 1) := by decide +kernel
theorem dX7_boughtAt_47 : decode cX7_boughtAt 47 = .ok (.iload_n 2, 1) := by decide +kernel
theorem dX7_boughtAt_48 : decode cX7_boughtAt 48 = .ok (.invokevirtual 234, 3) := by decide +kernel
theorem dX7_boughtAt_51 : decode cX7_boughtAt 51 = .ok (.ifCond .eq 5, 3) := by decide +kernel
theorem dX7_boughtAt_54 : decode cX7_boughtAt 54 = .ok (.iload_n 3, 1) := by decide +kernel
theorem dX7_boughtAt_55 : decode cX7_boughtAt 55 = .ok (.ireturn, 1) := by decide +kernel
theorem dX7_boughtAt_56 : decode cX7_boughtAt 56 = .ok (.iinc 3 1, 3) := by decide +kernel
theorem dX7_boughtAt_59 : decode cX7_boughtAt 59 = .ok (.goto (-57), 3) := by decide +kernel
theorem dX7_boughtAt_62 : decode cX7_boughtAt 62 = .ok (.bipush (-9), 2) := by decide +kernel
theorem dX7_boughtAt_64 : decode cX7_boughtAt 64 = .ok (.ireturn, 1) := by decide +kernel
theorem dX7_write_0 : decode cX7_write 0 = .ok (.iconst 0, 1) := by decide +kernel
theorem dX7_write_1 : decode cX7_write 1 = .ok (.istore_n 3, 1) := by decide +kernel
theorem dX7_write_2 : decode cX7_write 2 = .ok (.iload_n 3, 1) := by decide +kernel
theorem dX7_write_3 : decode cX7_write 3 = .ok (.bipush 6, 2) := by decide +kernel
theorem dX7_write_5 : decode cX7_write 5 = .ok (.if_icmp .ge 62, 3) := by decide +kernel
theorem dX7_write_8 : decode cX7_write 8 = .ok (.aload_n 1, 1) := by decide +kernel
theorem dX7_write_9 : decode cX7_write 9 = .ok (.iload_n 2, 1) := by decide +kernel
theorem dX7_write_10 : decode cX7_write 10 = .ok (.iload_n 3, 1) := by decide +kernel
theorem dX7_write_11 : decode cX7_write 11 = .ok (.iadd, 1) := by decide +kernel
theorem dX7_write_12 : decode cX7_write 12 = .ok (.aload_n 0, 1) := by decide +kernel
theorem dX7_write_13 : decode cX7_write 13 = .ok (.getfield 31, 3) := by decide +kernel
theorem dX7_write_16 : decode cX7_write 16 = .ok (.iload_n 3, 1) := by decide +kernel
theorem dX7_write_17 : decode cX7_write 17 = .ok (.iaload, 1) := by decide +kernel
theorem dX7_write_18 : decode cX7_write 18 = .ok (.iastore, 1) := by decide +kernel
theorem dX7_write_19 : decode cX7_write 19 = .ok (.aload_n 1, 1) := by decide +kernel
theorem dX7_write_20 : decode cX7_write 20 = .ok (.iload_n 2, 1) := by decide +kernel
theorem dX7_write_21 : decode cX7_write 21 = .ok (.bipush 6, 2) := by decide +kernel
theorem dX7_write_23 : decode cX7_write 23 = .ok (.iadd, 1) := by decide +kernel
theorem dX7_write_24 : decode cX7_write 24 = .ok (.iload_n 3, 1) := by decide +kernel
theorem dX7_write_25 : decode cX7_write 25 = .ok (.iadd, 1) := by decide +kernel
theorem dX7_write_26 : decode cX7_write 26 = .ok (.aload_n 0, 1) := by decide +kernel
theorem dX7_write_27 : decode cX7_write 27 = .ok (.getfield 34, 3) := by decide +kernel
theorem dX7_write_30 : decode cX7_write 30 = .ok (.iload_n 3, 1) := by decide +kernel
theorem dX7_write_31 : decode cX7_write 31 = .ok (.iaload, 1) := by decide +kernel
theorem dX7_write_32 : decode cX7_write 32 = .ok (.iastore, 1) := by decide +kernel
theorem dX7_write_33 : decode cX7_write 33 = .ok (.aload_n 1, 1) := by decide +kernel
theorem dX7_write_34 : decode cX7_write 34 = .ok (.iload_n 2, 1) := by decide +kernel
theorem dX7_write_35 : decode cX7_write 35 = .ok (.bipush 12, 2) := by decide +kernel
theorem dX7_write_37 : decode cX7_write 37 = .ok (.iadd, 1) := by decide +kernel
theorem dX7_write_38 : decode cX7_write 38 = .ok (.iload_n 3, 1) := by decide +kernel
theorem dX7_write_39 : decode cX7_write 39 = .ok (.iadd, 1) := by decide +kernel
theorem dX7_write_40 : decode cX7_write 40 = .ok (.aload_n 0, 1) := by decide +kernel
theorem dX7_write_41 : decode cX7_write 41 = .ok (.getfield 37, 3) := by decide +kernel
theorem dX7_write_44 : decode cX7_write 44 = .ok (.iload_n 3, 1) := by decide +kernel
theorem dX7_write_45 : decode cX7_write 45 = .ok (.iaload, 1) := by decide +kernel
theorem dX7_write_46 : decode cX7_write 46 = .ok (.iastore, 1) := by decide +kernel
theorem dX7_write_47 : decode cX7_write 47 = .ok (.aload_n 1, 1) := by decide +kernel
theorem dX7_write_48 : decode cX7_write 48 = .ok (.iload_n 2, 1) := by decide +kernel
theorem dX7_write_49 : decode cX7_write 49 = .ok (.bipush 18, 2) := by decide +kernel
theorem dX7_write_51 : decode cX7_write 51 = .ok (.iadd, 1) := by decide +kernel
theorem dX7_write_52 : decode cX7_write 52 = .ok (.iload_n 3, 1) := by decide +kernel
theorem dX7_write_53 : decode cX7_write 53 = .ok (.iadd, 1) := by decide +kernel
theorem dX7_write_54 : decode cX7_write 54 = .ok (.aload_n 0, 1) := by decide +kernel
theorem dX7_write_55 : decode cX7_write 55 = .ok (.getfield 49, 3) := by decide +kernel
theorem dX7_write_58 : decode cX7_write 58 = .ok (.iload_n 3, 1) := by decide +kernel
theorem dX7_write_59 : decode cX7_write 59 = .ok (.iaload, 1) := by decide +kernel
theorem dX7_write_60 : decode cX7_write 60 = .ok (.iastore, 1) := by decide +kernel
theorem dX7_write_61 : decode cX7_write 61 = .ok (.iinc 3 1, 3) := by decide +kernel
theorem dX7_write_64 : decode cX7_write 64 = .ok (.goto (-62), 3) := by decide +kernel
theorem dX7_write_67 : decode cX7_write 67 = .ok (.return_, 1) := by decide +kernel
theorem dX7_read_0 : decode cX7_read 0 = .ok (.iconst 0, 1) := by decide +kernel
theorem dX7_read_1 : decode cX7_read 1 = .ok (.istore_n 3, 1) := by decide +kernel
theorem dX7_read_2 : decode cX7_read 2 = .ok (.iload_n 3, 1) := by decide +kernel
theorem dX7_read_3 : decode cX7_read 3 = .ok (.bipush 6, 2) := by decide +kernel
theorem dX7_read_5 : decode cX7_read 5 = .ok (.if_icmp .ge 62, 3) := by decide +kernel
theorem dX7_read_8 : decode cX7_read 8 = .ok (.aload_n 0, 1) := by decide +kernel
theorem dX7_read_9 : decode cX7_read 9 = .ok (.getfield 31, 3) := by decide +kernel
theorem dX7_read_12 : decode cX7_read 12 = .ok (.iload_n 3, 1) := by decide +kernel
theorem dX7_read_13 : decode cX7_read 13 = .ok (.aload_n 1, 1) := by decide +kernel
theorem dX7_read_14 : decode cX7_read 14 = .ok (.iload_n 2, 1) := by decide +kernel
theorem dX7_read_15 : decode cX7_read 15 = .ok (.iload_n 3, 1) := by decide +kernel
theorem dX7_read_16 : decode cX7_read 16 = .ok (.iadd, 1) := by decide +kernel
theorem dX7_read_17 : decode cX7_read 17 = .ok (.iaload, 1) := by decide +kernel
theorem dX7_read_18 : decode cX7_read 18 = .ok (.iastore, 1) := by decide +kernel
theorem dX7_read_19 : decode cX7_read 19 = .ok (.aload_n 0, 1) := by decide +kernel
theorem dX7_read_20 : decode cX7_read 20 = .ok (.getfield 34, 3) := by decide +kernel
theorem dX7_read_23 : decode cX7_read 23 = .ok (.iload_n 3, 1) := by decide +kernel
theorem dX7_read_24 : decode cX7_read 24 = .ok (.aload_n 1, 1) := by decide +kernel
theorem dX7_read_25 : decode cX7_read 25 = .ok (.iload_n 2, 1) := by decide +kernel
theorem dX7_read_26 : decode cX7_read 26 = .ok (.bipush 6, 2) := by decide +kernel
theorem dX7_read_28 : decode cX7_read 28 = .ok (.iadd, 1) := by decide +kernel
theorem dX7_read_29 : decode cX7_read 29 = .ok (.iload_n 3, 1) := by decide +kernel
theorem dX7_read_30 : decode cX7_read 30 = .ok (.iadd, 1) := by decide +kernel
theorem dX7_read_31 : decode cX7_read 31 = .ok (.iaload, 1) := by decide +kernel
theorem dX7_read_32 : decode cX7_read 32 = .ok (.iastore, 1) := by decide +kernel
theorem dX7_read_33 : decode cX7_read 33 = .ok (.aload_n 0, 1) := by decide +kernel
theorem dX7_read_34 : decode cX7_read 34 = .ok (.getfield 37, 3) := by decide +kernel
theorem dX7_read_37 : decode cX7_read 37 = .ok (.iload_n 3, 1) := by decide +kernel
theorem dX7_read_38 : decode cX7_read 38 = .ok (.aload_n 1, 1) := by decide +kernel
theorem dX7_read_39 : decode cX7_read 39 = .ok (.iload_n 2, 1) := by decide +kernel
theorem dX7_read_40 : decode cX7_read 40 = .ok (.bipush 12, 2) := by decide +kernel
theorem dX7_read_42 : decode cX7_read 42 = .ok (.iadd, 1) := by decide +kernel
theorem dX7_read_43 : decode cX7_read 43 = .ok (.iload_n 3, 1) := by decide +kernel
theorem dX7_read_44 : decode cX7_read 44 = .ok (.iadd, 1) := by decide +kernel
theorem dX7_read_45 : decode cX7_read 45 = .ok (.iaload, 1) := by decide +kernel
theorem dX7_read_46 : decode cX7_read 46 = .ok (.iastore, 1) := by decide +kernel
theorem dX7_read_47 : decode cX7_read 47 = .ok (.aload_n 0, 1) := by decide +kernel
theorem dX7_read_48 : decode cX7_read 48 = .ok (.getfield 49, 3) := by decide +kernel
theorem dX7_read_51 : decode cX7_read 51 = .ok (.iload_n 3, 1) := by decide +kernel
theorem dX7_read_52 : decode cX7_read 52 = .ok (.aload_n 1, 1) := by decide +kernel
theorem dX7_read_53 : decode cX7_read 53 = .ok (.iload_n 2, 1) := by decide +kernel
theorem dX7_read_54 : decode cX7_read 54 = .ok (.bipush 18, 2) := by decide +kernel
theorem dX7_read_56 : decode cX7_read 56 = .ok (.iadd, 1) := by decide +kernel
theorem dX7_read_57 : decode cX7_read 57 = .ok (.iload_n 3, 1) := by decide +kernel
theorem dX7_read_58 : decode cX7_read 58 = .ok (.iadd, 1) := by decide +kernel
theorem dX7_read_59 : decode cX7_read 59 = .ok (.iaload, 1) := by decide +kernel
theorem dX7_read_60 : decode cX7_read 60 = .ok (.iastore, 1) := by decide +kernel
theorem dX7_read_61 : decode cX7_read 61 = .ok (.iinc 3 1, 3) := by decide +kernel
theorem dX7_read_64 : decode cX7_read 64 = .ok (.goto (-62), 3) := by decide +kernel
theorem dX7_read_67 : decode cX7_read 67 = .ok (.return_, 1) := by decide +kernel
theorem dX7_minutes_0 : decode cX7_minutes 0 = .ok (.iload_n 1, 1) := by decide +kernel
theorem dX7_minutes_1 : decode cX7_minutes 1 = .ok (.iconst 0, 1) := by decide +kernel
theorem dX7_minutes_2 : decode cX7_minutes 2 = .ok (.bipush 20, 2) := by decide +kernel
theorem dX7_minutes_4 : decode cX7_minutes 4 = .ok (.invokestatic 83, 3) := by decide +kernel
theorem dX7_minutes_7 : decode cX7_minutes 7 = .ok (.ifCond .ne 5, 3) := by decide +kernel
theorem dX7_minutes_10 : decode cX7_minutes 10 = .ok (.iconst (-1), 1) := by decide +kernel
theorem dX7_minutes_11 : decode cX7_minutes 11 = .ok (.ireturn, 1) := by decide +kernel
theorem dX7_minutes_12 : decode cX7_minutes 12 = .ok (.aload_n 0, 1) := by decide +kernel
theorem dX7_minutes_13 : decode cX7_minutes 13 = .ok (.getfield 151, 3) := by decide +kernel
theorem dX7_minutes_16 : decode cX7_minutes 16 = .ok (.ifCond .ne 6, 3) := by decide +kernel
theorem dX7_minutes_19 : decode cX7_minutes 19 = .ok (.bipush (-4), 2) := by decide +kernel
theorem dX7_minutes_21 : decode cX7_minutes 21 = .ok (.ireturn, 1) := by decide +kernel
theorem dX7_minutes_22 : decode cX7_minutes 22 = .ok (.aload_n 0, 1) := by decide +kernel
theorem dX7_minutes_23 : decode cX7_minutes 23 = .ok (.getfield 160, 3) := by decide +kernel
theorem dX7_minutes_26 : decode cX7_minutes 26 = .ok (.iload_n 1, 1) := by decide +kernel
theorem dX7_minutes_27 : decode cX7_minutes 27 = .ok (.iadd, 1) := by decide +kernel
theorem dX7_minutes_28 : decode cX7_minutes 28 = .ok (.bipush 60, 2) := by decide +kernel
theorem dX7_minutes_30 : decode cX7_minutes 30 = .ok (.if_icmp .le 6, 3) := by decide +kernel
theorem dX7_minutes_33 : decode cX7_minutes 33 = .ok (.bipush (-2), 2) := by decide +kernel
theorem dX7_minutes_35 : decode cX7_minutes 35 = .ok (.ireturn, 1) := by decide +kernel
theorem dX7_minutes_36 : decode cX7_minutes 36 = .ok (.iconst 0, 1) := by decide +kernel
theorem dX7_minutes_37 : decode cX7_minutes 37 = .ok (.istore_n 2, 1) := by decide +kernel
theorem dX7_minutes_38 : decode cX7_minutes 38 = .ok (.iconst 0, 1) := by decide +kernel
theorem dX7_minutes_39 : decode cX7_minutes 39 = .ok (.istore_n 3, 1) := by decide +kernel
theorem dX7_minutes_40 : decode cX7_minutes 40 = .ok (.iload_n 3, 1) := by decide +kernel
theorem dX7_minutes_41 : decode cX7_minutes 41 = .ok (.iload_n 1, 1) := by decide +kernel
theorem dX7_minutes_42 : decode cX7_minutes 42 = .ok (.if_icmp .ge 41, 3) := by decide +kernel
theorem dX7_minutes_45 : decode cX7_minutes 45 = .ok (.aload_n 0, 1) := by decide +kernel
theorem dX7_minutes_46 : decode cX7_minutes 46 = .ok (.aload_n 0, 1) := by decide +kernel
theorem dX7_minutes_47 : decode cX7_minutes 47 = .ok (.getfield 52, 3) := by decide +kernel
theorem dX7_minutes_50 : decode cX7_minutes 50 = .ok (.bipush 24, 2) := by decide +kernel
theorem dX7_minutes_52 : decode cX7_minutes 52 = .ok (.aload_n 0, 1) := by decide +kernel
theorem dX7_minutes_53 : decode cX7_minutes 53 = .ok (.getfield 160, 3) := by decide +kernel
theorem dX7_minutes_56 : decode cX7_minutes 56 = .ok (.imul, 1) := by decide +kernel
theorem dX7_minutes_57 : decode cX7_minutes 57 = .ok (.invokevirtual 237, 3) := by decide +kernel
theorem dX7_minutes_60 : decode cX7_minutes 60 = .ok (.aload_n 0, 1) := by decide +kernel
theorem dX7_minutes_61 : decode cX7_minutes 61 = .ok (.iconst 0, 1) := by decide +kernel
theorem dX7_minutes_62 : decode cX7_minutes 62 = .ok (.bipush (-9), 2) := by decide +kernel
theorem dX7_minutes_64 : decode cX7_minutes 64 = .ok (.invokevirtual 241, 3) := by decide +kernel
theorem dX7_minutes_67 : decode cX7_minutes 67 = .ok (.iload_n 2, 1) := by decide +kernel
theorem dX7_minutes_68 : decode cX7_minutes 68 = .ok (.aload_n 0, 1) := by decide +kernel
theorem dX7_minutes_69 : decode cX7_minutes 69 = .ok (.getfield 218, 3) := by decide +kernel
theorem dX7_minutes_72 : decode cX7_minutes 72 = .ok (.invokestatic 192, 3) := by decide +kernel
theorem dX7_minutes_75 : decode cX7_minutes 75 = .ok (.iadd, 1) := by decide +kernel
theorem dX7_minutes_76 : decode cX7_minutes 76 = .ok (.istore_n 2, 1) := by decide +kernel
theorem dX7_minutes_77 : decode cX7_minutes 77 = .ok (.iinc 3 1, 3) := by decide +kernel
theorem dX7_minutes_80 : decode cX7_minutes 80 = .ok (.goto (-40), 3) := by decide +kernel
theorem dX7_minutes_83 : decode cX7_minutes 83 = .ok (.iload_n 2, 1) := by decide +kernel
theorem dX7_minutes_84 : decode cX7_minutes 84 = .ok (.ireturn, 1) := by decide +kernel
theorem dX7_undo_0 : decode cX7_undo 0 = .ok (.iload_n 1, 1) := by decide +kernel
theorem dX7_undo_1 : decode cX7_undo 1 = .ok (.aload_n 0, 1) := by decide +kernel
theorem dX7_undo_2 : decode cX7_undo 2 = .ok (.getfield 163, 3) := by decide +kernel
theorem dX7_undo_5 : decode cX7_undo 5 = .ok (.aload_n 0, 1) := by decide +kernel
theorem dX7_undo_6 : decode cX7_undo 6 = .ok (.getfield 160, 3) := by decide +kernel
theorem dX7_undo_9 : decode cX7_undo 9 = .ok (.invokestatic 83, 3) := by decide +kernel
theorem dX7_undo_12 : decode cX7_undo 12 = .ok (.ifCond .ne 5, 3) := by decide +kernel
theorem dX7_undo_15 : decode cX7_undo 15 = .ok (.iconst (-1), 1) := by decide +kernel
theorem dX7_undo_16 : decode cX7_undo 16 = .ok (.ireturn, 1) := by decide +kernel
theorem dX7_undo_17 : decode cX7_undo 17 = .ok (.aload_n 0, 1) := by decide +kernel
theorem dX7_undo_18 : decode cX7_undo 18 = .ok (.getfield 160, 3) := by decide +kernel
theorem dX7_undo_21 : decode cX7_undo 21 = .ok (.iload_n 1, 1) := by decide +kernel
theorem dX7_undo_22 : decode cX7_undo 22 = .ok (.isub, 1) := by decide +kernel
theorem dX7_undo_23 : decode cX7_undo 23 = .ok (.istore_n 2, 1) := by decide +kernel
theorem dX7_undo_24 : decode cX7_undo 24 = .ok (.iload_n 2, 1) := by decide +kernel
theorem dX7_undo_25 : decode cX7_undo 25 = .ok (.ifCond .le 20, 3) := by decide +kernel
theorem dX7_undo_28 : decode cX7_undo 28 = .ok (.aload_n 0, 1) := by decide +kernel
theorem dX7_undo_29 : decode cX7_undo 29 = .ok (.aload_n 0, 1) := by decide +kernel
theorem dX7_undo_30 : decode cX7_undo 30 = .ok (.getfield 52, 3) := by decide +kernel
theorem dX7_undo_33 : decode cX7_undo 33 = .ok (.bipush 24, 2) := by decide +kernel
theorem dX7_undo_35 : decode cX7_undo 35 = .ok (.iload_n 1, 1) := by decide +kernel
theorem dX7_undo_36 : decode cX7_undo 36 = .ok (.imul, 1) := by decide +kernel
theorem dX7_undo_37 : decode cX7_undo 37 = .ok (.invokevirtual 244, 3) := by decide +kernel
theorem dX7_undo_40 : decode cX7_undo 40 = .ok (.aload_n 0, 1) := by decide +kernel
theorem dX7_undo_41 : decode cX7_undo 41 = .ok (.iload_n 1, 1) := by decide +kernel
theorem dX7_undo_42 : decode cX7_undo 42 = .ok (.putfield 160, 3) := by decide +kernel
theorem dX7_undo_45 : decode cX7_undo 45 = .ok (.iload_n 2, 1) := by decide +kernel
theorem dX7_undo_46 : decode cX7_undo 46 = .ok (.ireturn, 1) := by decide +kernel
theorem dX7_turn_0 : decode cX7_turn 0 = .ok (.iload_n 1, 1) := by decide +kernel
theorem dX7_turn_1 : decode cX7_turn 1 = .ok (.iconst 0, 1) := by decide +kernel
theorem dX7_turn_2 : decode cX7_turn 2 = .ok (.iconst 1, 1) := by decide +kernel
theorem dX7_turn_3 : decode cX7_turn 3 = .ok (.invokestatic 83, 3) := by decide +kernel
theorem dX7_turn_6 : decode cX7_turn 6 = .ok (.ifCond .ne 5, 3) := by decide +kernel
theorem dX7_turn_9 : decode cX7_turn 9 = .ok (.iconst (-1), 1) := by decide +kernel
theorem dX7_turn_10 : decode cX7_turn 10 = .ok (.ireturn, 1) := by decide +kernel
theorem dX7_turn_11 : decode cX7_turn 11 = .ok (.aload_n 0, 1) := by decide +kernel
theorem dX7_turn_12 : decode cX7_turn 12 = .ok (.getfield 151, 3) := by decide +kernel
theorem dX7_turn_15 : decode cX7_turn 15 = .ok (.ifCond .ne 6, 3) := by decide +kernel
theorem dX7_turn_18 : decode cX7_turn 18 = .ok (.bipush (-4), 2) := by decide +kernel
theorem dX7_turn_20 : decode cX7_turn 20 = .ok (.ireturn, 1) := by decide +kernel
theorem dX7_turn_21 : decode cX7_turn 21 = .ok (.iload_n 1, 1) := by decide +kernel
theorem dX7_turn_22 : decode cX7_turn 22 = .ok (.ifCond .ne 7, 3) := by decide +kernel
theorem dX7_turn_25 : decode cX7_turn 25 = .ok (.iconst (-1), 1) := by decide +kernel
theorem dX7_turn_26 : decode cX7_turn 26 = .ok (.goto 4, 3) := by decide +kernel
theorem dX7_turn_29 : decode cX7_turn 29 = .ok (.iconst 1, 1) := by decide +kernel
theorem dX7_turn_30 : decode cX7_turn 30 = .ok (.istore_n 2, 1) := by decide +kernel
theorem dX7_turn_31 : decode cX7_turn 31 = .ok (.aload_n 0, 1) := by decide +kernel
theorem dX7_turn_32 : decode cX7_turn 32 = .ok (.getfield 31, 3) := by decide +kernel
theorem dX7_turn_35 : decode cX7_turn 35 = .ok (.iconst 0, 1) := by decide +kernel
theorem dX7_turn_36 : decode cX7_turn 36 = .ok (.iaload, 1) := by decide +kernel
theorem dX7_turn_37 : decode cX7_turn 37 = .ok (.iload_n 2, 1) := by decide +kernel
theorem dX7_turn_38 : decode cX7_turn 38 = .ok (.iadd, 1) := by decide +kernel
theorem dX7_turn_39 : decode cX7_turn 39 = .ok (.invokestatic 204, 3) := by decide +kernel
theorem dX7_turn_42 : decode cX7_turn 42 = .ok (.ifCond .eq 22, 3) := by decide +kernel
theorem dX7_turn_45 : decode cX7_turn 45 = .ok (.aload_n 0, 1) := by decide +kernel
theorem dX7_turn_46 : decode cX7_turn 46 = .ok (.getfield 31, 3) := by decide +kernel
theorem dX7_turn_49 : decode cX7_turn 49 = .ok (.aload_n 0, 1) := by decide +kernel
theorem dX7_turn_50 : decode cX7_turn 50 = .ok (.getfield 151, 3) := by decide +kernel
theorem dX7_turn_53 : decode cX7_turn 53 = .ok (.iconst 1, 1) := by decide +kernel
theorem dX7_turn_54 : decode cX7_turn 54 = .ok (.isub, 1) := by decide +kernel
theorem dX7_turn_55 : decode cX7_turn 55 = .ok (.iaload, 1) := by decide +kernel
theorem dX7_turn_56 : decode cX7_turn 56 = .ok (.iload_n 2, 1) := by decide +kernel
theorem dX7_turn_57 : decode cX7_turn 57 = .ok (.iadd, 1) := by decide +kernel
theorem dX7_turn_58 : decode cX7_turn 58 = .ok (.invokestatic 204, 3) := by decide +kernel
theorem dX7_turn_61 : decode cX7_turn 61 = .ok (.ifCond .ne 5, 3) := by decide +kernel
theorem dX7_turn_64 : decode cX7_turn 64 = .ok (.iconst 0, 1) := by decide +kernel
theorem dX7_turn_65 : decode cX7_turn 65 = .ok (.ireturn, 1) := by decide +kernel
theorem dX7_turn_66 : decode cX7_turn 66 = .ok (.iconst 0, 1) := by decide +kernel
theorem dX7_turn_67 : decode cX7_turn 67 = .ok (.istore_n 3, 1) := by decide +kernel
theorem dX7_turn_68 : decode cX7_turn 68 = .ok (.iload_n 3, 1) := by decide +kernel
theorem dX7_turn_69 : decode cX7_turn 69 = .ok (.aload_n 0, 1) := by decide +kernel
theorem dX7_turn_70 : decode cX7_turn 70 = .ok (.getfield 151, 3) := by decide +kernel
theorem dX7_turn_73 : decode cX7_turn 73 = .ok (.if_icmp .ge 19, 3) := by decide +kernel
theorem dX7_turn_76 : decode cX7_turn 76 = .ok (.aload_n 0, 1) := by decide +kernel
theorem dX7_turn_77 : decode cX7_turn 77 = .ok (.getfield 31, 3) := by decide +kernel
theorem dX7_turn_80 : decode cX7_turn 80 = .ok (.iload_n 3, 1) := by decide +kernel
theorem dX7_turn_81 : decode cX7_turn 81 = .ok (.dup2, 1) := by decide +kernel
theorem dX7_turn_82 : decode cX7_turn 82 = .ok (.iaload, 1) := by decide +kernel
theorem dX7_turn_83 : decode cX7_turn 83 = .ok (.iload_n 2, 1) := by decide +kernel
theorem dX7_turn_84 : decode cX7_turn 84 = .ok (.iadd, 1) := by decide +kernel
theorem dX7_turn_85 : decode cX7_turn 85 = .ok (.iastore, 1) := by decide +kernel
theorem dX7_turn_86 : decode cX7_turn 86 = .ok (.iinc 3 1, 3) := by decide +kernel
theorem dX7_turn_89 : decode cX7_turn 89 = .ok (.goto (-21), 3) := by decide +kernel
theorem dX7_turn_92 : decode cX7_turn 92 = .ok (.iconst 1, 1) := by decide +kernel
theorem dX7_turn_93 : decode cX7_turn 93 = .ok (.ireturn, 1) := by decide +kernel
theorem dX7_shade_0 : decode cX7_shade 0 = .ok (.aload_n 0, 1) := by decide +kernel
theorem dX7_shade_1 : decode cX7_shade 1 = .ok (.getfield 151, 3) := by decide +kernel
theorem dX7_shade_4 : decode cX7_shade 4 = .ok (.ifCond .ne 8, 3) := by decide +kernel
theorem dX7_shade_7 : decode cX7_shade 7 = .ok (.bipush (-4), 2) := by decide +kernel
theorem dX7_shade_9 : decode cX7_shade 9 = .ok (.goto 38, 3) := by decide +kernel
theorem dX7_shade_12 : decode cX7_shade 12 = .ok (.aload_n 0, 1) := by decide +kernel
theorem dX7_shade_13 : decode cX7_shade 13 = .ok (.aload_n 0, 1) := by decide +kernel
theorem dX7_shade_14 : decode cX7_shade 14 = .ok (.getfield 31, 3) := by decide +kernel
theorem dX7_shade_17 : decode cX7_shade 17 = .ok (.iconst 0, 1) := by decide +kernel
theorem dX7_shade_18 : decode cX7_shade 18 = .ok (.iaload, 1) := by decide +kernel
theorem dX7_shade_19 : decode cX7_shade 19 = .ok (.aload_n 0, 1) := by decide +kernel
theorem dX7_shade_20 : decode cX7_shade 20 = .ok (.invokevirtual 224, 3) := by decide +kernel
theorem dX7_shade_23 : decode cX7_shade 23 = .ok (.iadd, 1) := by decide +kernel
theorem dX7_shade_24 : decode cX7_shade 24 = .ok (.aload_n 0, 1) := by decide +kernel
theorem dX7_shade_25 : decode cX7_shade 25 = .ok (.getfield 31, 3) := by decide +kernel
theorem dX7_shade_28 : decode cX7_shade 28 = .ok (.aload_n 0, 1) := by decide +kernel
theorem dX7_shade_29 : decode cX7_shade 29 = .ok (.getfield 151, 3) := by decide +kernel
theorem dX7_shade_32 : decode cX7_shade 32 = .ok (.iconst 1, 1) := by decide +kernel
theorem dX7_shade_33 : decode cX7_shade 33 = .ok (.isub, 1) := by decide +kernel
theorem dX7_shade_34 : decode cX7_shade 34 = .ok (.iaload, 1) := by decide +kernel
theorem dX7_shade_35 : decode cX7_shade 35 = .ok (.aload_n 0, 1) := by decide +kernel
theorem dX7_shade_36 : decode cX7_shade 36 = .ok (.getfield 31, 3) := by decide +kernel
theorem dX7_shade_39 : decode cX7_shade 39 = .ok (.iconst 0, 1) := by decide +kernel
theorem dX7_shade_40 : decode cX7_shade 40 = .ok (.iaload, 1) := by decide +kernel
theorem dX7_shade_41 : decode cX7_shade 41 = .ok (.isub, 1) := by decide +kernel
theorem dX7_shade_42 : decode cX7_shade 42 = .ok (.iconst 1, 1) := by decide +kernel
theorem dX7_shade_43 : decode cX7_shade 43 = .ok (.iadd, 1) := by decide +kernel
theorem dX7_shade_44 : decode cX7_shade 44 = .ok (.invokevirtual 109, 3) := by decide +kernel
theorem dX7_shade_47 : decode cX7_shade 47 = .ok (.ireturn, 1) := by decide +kernel
theorem dX7_shadedBy_0 : decode cX7_shadedBy 0 = .ok (.iconst 0, 1) := by decide +kernel
theorem dX7_shadedBy_1 : decode cX7_shadedBy 1 = .ok (.istore_n 2, 1) := by decide +kernel
theorem dX7_shadedBy_2 : decode cX7_shadedBy 2 = .ok (.iconst 0, 1) := by decide +kernel
theorem dX7_shadedBy_3 : decode cX7_shadedBy 3 = .ok (.istore_n 3, 1) := by decide +kernel
theorem dX7_shadedBy_4 : decode cX7_shadedBy 4 = .ok (.iload_n 3, 1) := by decide +kernel
theorem dX7_shadedBy_5 : decode cX7_shadedBy 5 = .ok (.aload_n 0, 1) := by decide +kernel
theorem dX7_shadedBy_6 : decode cX7_shadedBy 6 = .ok (.getfield 154, 3) := by decide +kernel
theorem dX7_shadedBy_9 : decode cX7_shadedBy 9 = .ok (.if_icmp .ge 33, 3) := by decide +kernel
theorem dX7_shadedBy_12 : decode cX7_shadedBy 12 = .ok (.iload_n 2, 1) := by decide +kernel
theorem dX7_shadedBy_13 : decode cX7_shadedBy 13 = .ok (.aload_n 0, 1) := by decide +kernel
theorem dX7_shadedBy_14 : decode cX7_shadedBy 14 = .ok (.aload_n 0, 1) := by decide +kernel
theorem dX7_shadedBy_15 : decode cX7_shadedBy 15 = .ok (.getfield 40, 3) := by decide +kernel
theorem dX7_shadedBy_18 : decode cX7_shadedBy 18 = .ok (.iload_n 3, 1) := by decide +kernel
theorem dX7_shadedBy_19 : decode cX7_shadedBy 19 = .ok (.iaload, 1) := by decide +kernel
theorem dX7_shadedBy_20 : decode cX7_shadedBy 20 = .ok (.iload_n 1, 1) := by decide +kernel
theorem dX7_shadedBy_21 : decode cX7_shadedBy 21 = .ok (.invokevirtual 234, 3) := by decide +kernel
theorem dX7_shadedBy_24 : decode cX7_shadedBy 24 = .ok (.ifCond .eq 9, 3) := by decide +kernel
theorem dX7_shadedBy_27 : decode cX7_shadedBy 27 = .ok (.iconst 1, 1) := by decide +kernel
theorem dX7_shadedBy_28 : decode cX7_shadedBy 28 = .ok (.iload_n 3, 1) := by decide +kernel
theorem dX7_shadedBy_29 : decode cX7_shadedBy 29 = .ok (.ishl, 1) := by decide +kernel
theorem dX7_shadedBy_30 : decode cX7_shadedBy 30 = .ok (.goto 4, 3) := by decide +kernel
theorem dX7_shadedBy_33 : decode cX7_shadedBy 33 = .ok (.iconst 0, 1) := by decide +kernel
theorem dX7_shadedBy_34 : decode cX7_shadedBy 34 = .ok (.ior, 1) := by decide +kernel
theorem dX7_shadedBy_35 : decode cX7_shadedBy 35 = .ok (.istore_n 2, 1) := by decide +kernel
theorem dX7_shadedBy_36 : decode cX7_shadedBy 36 = .ok (.iinc 3 1, 3) := by decide +kernel
theorem dX7_shadedBy_39 : decode cX7_shadedBy 39 = .ok (.goto (-35), 3) := by decide +kernel
theorem dX7_shadedBy_42 : decode cX7_shadedBy 42 = .ok (.iload_n 2, 1) := by decide +kernel
theorem dX7_shadedBy_43 : decode cX7_shadedBy 43 = .ok (.ireturn, 1) := by decide +kernel
theorem dX7_shaded_0 : decode cX7_shaded 0 = .ok (.aload_n 0, 1) := by decide +kernel
theorem dX7_shaded_1 : decode cX7_shaded 1 = .ok (.aload_n 0, 1) := by decide +kernel
theorem dX7_shaded_2 : decode cX7_shaded 2 = .ok (.invokevirtual 224, 3) := by decide +kernel
theorem dX7_shaded_5 : decode cX7_shaded 5 = .ok (.invokevirtual 247, 3) := by decide +kernel
theorem dX7_shaded_8 : decode cX7_shaded 8 = .ok (.ireturn, 1) := by decide +kernel
theorem dX7_keep_0 : decode cX7_keep 0 = .ok (.iload_n 1, 1) := by decide +kernel
theorem dX7_keep_1 : decode cX7_keep 1 = .ok (.iconst 0, 1) := by decide +kernel
theorem dX7_keep_2 : decode cX7_keep 2 = .ok (.iconst 2, 1) := by decide +kernel
theorem dX7_keep_3 : decode cX7_keep 3 = .ok (.invokestatic 83, 3) := by decide +kernel
theorem dX7_keep_6 : decode cX7_keep 6 = .ok (.ifCond .ne 5, 3) := by decide +kernel
theorem dX7_keep_9 : decode cX7_keep 9 = .ok (.iconst (-1), 1) := by decide +kernel
theorem dX7_keep_10 : decode cX7_keep 10 = .ok (.ireturn, 1) := by decide +kernel
theorem dX7_keep_11 : decode cX7_keep 11 = .ok (.aload_n 0, 1) := by decide +kernel
theorem dX7_keep_12 : decode cX7_keep 12 = .ok (.getfield 151, 3) := by decide +kernel
theorem dX7_keep_15 : decode cX7_keep 15 = .ok (.ifCond .ne 6, 3) := by decide +kernel
theorem dX7_keep_18 : decode cX7_keep 18 = .ok (.bipush (-4), 2) := by decide +kernel
theorem dX7_keep_20 : decode cX7_keep 20 = .ok (.ireturn, 1) := by decide +kernel
theorem dX7_keep_21 : decode cX7_keep 21 = .ok (.bipush 32, 2) := by decide +kernel
theorem dX7_keep_23 : decode cX7_keep 23 = .ok (.iload_n 1, 1) := by decide +kernel
theorem dX7_keep_24 : decode cX7_keep 24 = .ok (.imul, 1) := by decide +kernel
theorem dX7_keep_25 : decode cX7_keep 25 = .ok (.istore_n 2, 1) := by decide +kernel
theorem dX7_keep_26 : decode cX7_keep 26 = .ok (.aload_n 0, 1) := by decide +kernel
theorem dX7_keep_27 : decode cX7_keep 27 = .ok (.getfield 55, 3) := by decide +kernel
theorem dX7_keep_30 : decode cX7_keep 30 = .ok (.iload_n 2, 1) := by decide +kernel
theorem dX7_keep_31 : decode cX7_keep 31 = .ok (.aload_n 0, 1) := by decide +kernel
theorem dX7_keep_32 : decode cX7_keep 32 = .ok (.getfield 160, 3) := by decide +kernel
theorem dX7_keep_35 : decode cX7_keep 35 = .ok (.iastore, 1) := by decide +kernel
theorem dX7_keep_36 : decode cX7_keep 36 = .ok (.aload_n 0, 1) := by decide +kernel
theorem dX7_keep_37 : decode cX7_keep 37 = .ok (.aload_n 0, 1) := by decide +kernel
theorem dX7_keep_38 : decode cX7_keep 38 = .ok (.getfield 55, 3) := by decide +kernel
theorem dX7_keep_41 : decode cX7_keep 41 = .ok (.iload_n 2, 1) := by decide +kernel
theorem dX7_keep_42 : decode cX7_keep 42 = .ok (.iconst 1, 1) := by decide +kernel
theorem dX7_keep_43 : decode cX7_keep 43 = .ok (.iadd, 1) := by decide +kernel
theorem dX7_keep_44 : decode cX7_keep 44 = .ok (.invokevirtual 237, 3) := by decide +kernel
theorem dX7_keep_47 : decode cX7_keep 47 = .ok (.iconst 0, 1) := by decide +kernel
theorem dX7_keep_48 : decode cX7_keep 48 = .ok (.istore_n 3, 1) := by decide +kernel
theorem dX7_keep_49 : decode cX7_keep 49 = .ok (.iload_n 3, 1) := by decide +kernel
theorem dX7_keep_50 : decode cX7_keep 50 = .ok (.bipush 6, 2) := by decide +kernel
theorem dX7_keep_52 : decode cX7_keep 52 = .ok (.if_icmp .ge 26, 3) := by decide +kernel
theorem dX7_keep_55 : decode cX7_keep 55 = .ok (.aload_n 0, 1) := by decide +kernel
theorem dX7_keep_56 : decode cX7_keep 56 = .ok (.getfield 55, 3) := by decide +kernel
theorem dX7_keep_59 : decode cX7_keep 59 = .ok (.iload_n 2, 1) := by decide +kernel
theorem dX7_keep_60 : decode cX7_keep 60 = .ok (.bipush 25, 2) := by decide +kernel
theorem dX7_keep_62 : decode cX7_keep 62 = .ok (.iadd, 1) := by decide +kernel
theorem dX7_keep_63 : decode cX7_keep 63 = .ok (.iload_n 3, 1) := by decide +kernel
theorem dX7_keep_64 : decode cX7_keep 64 = .ok (.iadd, 1) := by decide +kernel
theorem dX7_keep_65 : decode cX7_keep 65 = .ok (.aload_n 0, 1) := by decide +kernel
theorem dX7_keep_66 : decode cX7_keep 66 = .ok (.getfield 46, 3) := by decide +kernel
theorem dX7_keep_69 : decode cX7_keep 69 = .ok (.iload_n 3, 1) := by decide +kernel
theorem dX7_keep_70 : decode cX7_keep 70 = .ok (.iaload, 1) := by decide +kernel
theorem dX7_keep_71 : decode cX7_keep 71 = .ok (.iastore, 1) := by decide +kernel
theorem dX7_keep_72 : decode cX7_keep 72 = .ok (.iinc 3 1, 3) := by decide +kernel
theorem dX7_keep_75 : decode cX7_keep 75 = .ok (.goto (-26), 3) := by decide +kernel
theorem dX7_keep_78 : decode cX7_keep 78 = .ok (.aload_n 0, 1) := by decide +kernel
theorem dX7_keep_79 : decode cX7_keep 79 = .ok (.getfield 160, 3) := by decide +kernel
theorem dX7_keep_82 : decode cX7_keep 82 = .ok (.ireturn, 1) := by decide +kernel
theorem dX7_on_0 : decode cX7_on 0 = .ok (.iload_n 1, 1) := by decide +kernel
theorem dX7_on_1 : decode cX7_on 1 = .ok (.iconst 0, 1) := by decide +kernel
theorem dX7_on_2 : decode cX7_on 2 = .ok (.iconst 2, 1) := by decide +kernel
theorem dX7_on_3 : decode cX7_on 3 = .ok (.invokestatic 83, 3) := by decide +kernel
theorem dX7_on_6 : decode cX7_on 6 = .ok (.ifCond .ne 5, 3) := by decide +kernel
theorem dX7_on_9 : decode cX7_on 9 = .ok (.iconst (-1), 1) := by decide +kernel
theorem dX7_on_10 : decode cX7_on 10 = .ok (.ireturn, 1) := by decide +kernel
theorem dX7_on_11 : decode cX7_on 11 = .ok (.bipush 32, 2) := by decide +kernel
theorem dX7_on_13 : decode cX7_on 13 = .ok (.iload_n 1, 1) := by decide +kernel
theorem dX7_on_14 : decode cX7_on 14 = .ok (.imul, 1) := by decide +kernel
theorem dX7_on_15 : decode cX7_on 15 = .ok (.istore_n 2, 1) := by decide +kernel
theorem dX7_on_16 : decode cX7_on 16 = .ok (.aload_n 0, 1) := by decide +kernel
theorem dX7_on_17 : decode cX7_on 17 = .ok (.getfield 55, 3) := by decide +kernel
theorem dX7_on_20 : decode cX7_on 20 = .ok (.iload_n 2, 1) := by decide +kernel
theorem dX7_on_21 : decode cX7_on 21 = .ok (.iaload, 1) := by decide +kernel
theorem dX7_on_22 : decode cX7_on 22 = .ok (.bipush (-9), 2) := by decide +kernel
theorem dX7_on_24 : decode cX7_on 24 = .ok (.if_icmp .ne 9, 3) := by decide +kernel
theorem dX7_on_27 : decode cX7_on 27 = .ok (.aload_n 0, 1) := by decide +kernel
theorem dX7_on_28 : decode cX7_on 28 = .ok (.iconst 1, 1) := by decide +kernel
theorem dX7_on_29 : decode cX7_on 29 = .ok (.invokevirtual 91, 3) := by decide +kernel
theorem dX7_on_32 : decode cX7_on 32 = .ok (.ireturn, 1) := by decide +kernel
theorem dX7_on_33 : decode cX7_on 33 = .ok (.aload_n 0, 1) := by decide +kernel
theorem dX7_on_34 : decode cX7_on 34 = .ok (.aload_n 0, 1) := by decide +kernel
theorem dX7_on_35 : decode cX7_on 35 = .ok (.getfield 55, 3) := by decide +kernel
theorem dX7_on_38 : decode cX7_on 38 = .ok (.iload_n 2, 1) := by decide +kernel
theorem dX7_on_39 : decode cX7_on 39 = .ok (.iaload, 1) := by decide +kernel
theorem dX7_on_40 : decode cX7_on 40 = .ok (.putfield 160, 3) := by decide +kernel
theorem dX7_on_43 : decode cX7_on 43 = .ok (.aload_n 0, 1) := by decide +kernel
theorem dX7_on_44 : decode cX7_on 44 = .ok (.aload_n 0, 1) := by decide +kernel
theorem dX7_on_45 : decode cX7_on 45 = .ok (.getfield 160, 3) := by decide +kernel
theorem dX7_on_48 : decode cX7_on 48 = .ok (.putfield 163, 3) := by decide +kernel
theorem dX7_on_51 : decode cX7_on 51 = .ok (.aload_n 0, 1) := by decide +kernel
theorem dX7_on_52 : decode cX7_on 52 = .ok (.aload_n 0, 1) := by decide +kernel
theorem dX7_on_53 : decode cX7_on 53 = .ok (.getfield 55, 3) := by decide +kernel
theorem dX7_on_56 : decode cX7_on 56 = .ok (.iload_n 2, 1) := by decide +kernel
theorem dX7_on_57 : decode cX7_on 57 = .ok (.iconst 1, 1) := by decide +kernel
theorem dX7_on_58 : decode cX7_on 58 = .ok (.iadd, 1) := by decide +kernel
theorem dX7_on_59 : decode cX7_on 59 = .ok (.invokevirtual 244, 3) := by decide +kernel
theorem dX7_on_62 : decode cX7_on 62 = .ok (.iconst 0, 1) := by decide +kernel
theorem dX7_on_63 : decode cX7_on 63 = .ok (.istore_n 3, 1) := by decide +kernel
theorem dX7_on_64 : decode cX7_on 64 = .ok (.iload_n 3, 1) := by decide +kernel
theorem dX7_on_65 : decode cX7_on 65 = .ok (.bipush 6, 2) := by decide +kernel
theorem dX7_on_67 : decode cX7_on 67 = .ok (.if_icmp .ge 26, 3) := by decide +kernel
theorem dX7_on_70 : decode cX7_on 70 = .ok (.aload_n 0, 1) := by decide +kernel
theorem dX7_on_71 : decode cX7_on 71 = .ok (.getfield 46, 3) := by decide +kernel
theorem dX7_on_74 : decode cX7_on 74 = .ok (.iload_n 3, 1) := by decide +kernel
theorem dX7_on_75 : decode cX7_on 75 = .ok (.aload_n 0, 1) := by decide +kernel
theorem dX7_on_76 : decode cX7_on 76 = .ok (.getfield 55, 3) := by decide +kernel
theorem dX7_on_79 : decode cX7_on 79 = .ok (.iload_n 2, 1) := by decide +kernel
theorem dX7_on_80 : decode cX7_on 80 = .ok (.bipush 25, 2) := by decide +kernel
theorem dX7_on_82 : decode cX7_on 82 = .ok (.iadd, 1) := by decide +kernel
theorem dX7_on_83 : decode cX7_on 83 = .ok (.iload_n 3, 1) := by decide +kernel
theorem dX7_on_84 : decode cX7_on 84 = .ok (.iadd, 1) := by decide +kernel
theorem dX7_on_85 : decode cX7_on 85 = .ok (.iaload, 1) := by decide +kernel
theorem dX7_on_86 : decode cX7_on 86 = .ok (.iastore, 1) := by decide +kernel
theorem dX7_on_87 : decode cX7_on 87 = .ok (.iinc 3 1, 3) := by decide +kernel
theorem dX7_on_90 : decode cX7_on 90 = .ok (.goto (-26), 3) := by decide +kernel
theorem dX7_on_93 : decode cX7_on 93 = .ok (.aload_n 0, 1) := by decide +kernel
theorem dX7_on_94 : decode cX7_on 94 = .ok (.getfield 160, 3) := by decide +kernel
theorem dX7_on_97 : decode cX7_on 97 = .ok (.ireturn, 1) := by decide +kernel
theorem dX7_putAside_0 : decode cX7_putAside 0 = .ok (.aload_n 0, 1) := by decide +kernel
theorem dX7_putAside_1 : decode cX7_putAside 1 = .ok (.aload_n 0, 1) := by decide +kernel
theorem dX7_putAside_2 : decode cX7_putAside 2 = .ok (.getfield 58, 3) := by decide +kernel
theorem dX7_putAside_5 : decode cX7_putAside 5 = .ok (.iconst 0, 1) := by decide +kernel
theorem dX7_putAside_6 : decode cX7_putAside 6 = .ok (.invokevirtual 237, 3) := by decide +kernel
theorem dX7_putAside_9 : decode cX7_putAside 9 = .ok (.aload_n 0, 1) := by decide +kernel
theorem dX7_putAside_10 : decode cX7_putAside 10 = .ok (.aload_n 0, 1) := by decide +kernel
theorem dX7_putAside_11 : decode cX7_putAside 11 = .ok (.getfield 160, 3) := by decide +kernel
theorem dX7_putAside_14 : decode cX7_putAside 14 = .ok (.putfield 250, 3) := by decide +kernel
theorem dX7_putAside_17 : decode cX7_putAside 17 = .ok (.return_, 1) := by decide +kernel
theorem dX7_comeBack_0 : decode cX7_comeBack 0 = .ok (.aload_n 0, 1) := by decide +kernel
theorem dX7_comeBack_1 : decode cX7_comeBack 1 = .ok (.aload_n 0, 1) := by decide +kernel
theorem dX7_comeBack_2 : decode cX7_comeBack 2 = .ok (.getfield 58, 3) := by decide +kernel
theorem dX7_comeBack_5 : decode cX7_comeBack 5 = .ok (.iconst 0, 1) := by decide +kernel
theorem dX7_comeBack_6 : decode cX7_comeBack 6 = .ok (.invokevirtual 244, 3) := by decide +kernel
theorem dX7_comeBack_9 : decode cX7_comeBack 9 = .ok (.aload_n 0, 1) := by decide +kernel
theorem dX7_comeBack_10 : decode cX7_comeBack 10 = .ok (.aload_n 0, 1) := by decide +kernel
theorem dX7_comeBack_11 : decode cX7_comeBack 11 = .ok (.getfield 250, 3) := by decide +kernel
theorem dX7_comeBack_14 : decode cX7_comeBack 14 = .ok (.putfield 160, 3) := by decide +kernel
theorem dX7_comeBack_17 : decode cX7_comeBack 17 = .ok (.return_, 1) := by decide +kernel
theorem dX7_when_0 : decode cX7_when 0 = .ok (.aload_n 0, 1) := by decide +kernel
theorem dX7_when_1 : decode cX7_when 1 = .ok (.iload_n 1, 1) := by decide +kernel
theorem dX7_when_2 : decode cX7_when 2 = .ok (.invokevirtual 166, 3) := by decide +kernel
theorem dX7_when_5 : decode cX7_when 5 = .ok (.ifCond .ne 5, 3) := by decide +kernel
theorem dX7_when_8 : decode cX7_when 8 = .ok (.iconst (-1), 1) := by decide +kernel
theorem dX7_when_9 : decode cX7_when 9 = .ok (.ireturn, 1) := by decide +kernel
theorem dX7_when_10 : decode cX7_when 10 = .ok (.aload_n 0, 1) := by decide +kernel
theorem dX7_when_11 : decode cX7_when 11 = .ok (.invokevirtual 253, 3) := by decide +kernel
theorem dX7_when_14 : decode cX7_when 14 = .ok (.iconst 0, 1) := by decide +kernel
theorem dX7_when_15 : decode cX7_when 15 = .ok (.istore_n 2, 1) := by decide +kernel
theorem dX7_when_16 : decode cX7_when 16 = .ok (.iconst 0, 1) := by decide +kernel
theorem dX7_when_17 : decode cX7_when 17 = .ok (.istore_n 3, 1) := by decide +kernel
theorem dX7_when_18 : decode cX7_when 18 = .ok (.iload_n 2, 1) := by decide +kernel
theorem dX7_when_19 : decode cX7_when 19 = .ok (.bipush 60, 2) := by decide +kernel
theorem dX7_when_21 : decode cX7_when 21 = .ok (.if_icmp .ge 28, 3) := by decide +kernel
theorem dX7_when_24 : decode cX7_when 24 = .ok (.iload_n 3, 1) := by decide +kernel
theorem dX7_when_25 : decode cX7_when 25 = .ok (.ifCond .ne 24, 3) := by decide +kernel
theorem dX7_when_28 : decode cX7_when 28 = .ok (.aload_n 0, 1) := by decide +kernel
theorem dX7_when_29 : decode cX7_when 29 = .ok (.iconst 0, 1) := by decide +kernel
theorem dX7_when_30 : decode cX7_when 30 = .ok (.iload_n 1, 1) := by decide +kernel
theorem dX7_when_31 : decode cX7_when 31 = .ok (.invokevirtual 241, 3) := by decide +kernel
theorem dX7_when_34 : decode cX7_when 34 = .ok (.aload_n 0, 1) := by decide +kernel
theorem dX7_when_35 : decode cX7_when 35 = .ok (.getfield 218, 3) := by decide +kernel
theorem dX7_when_38 : decode cX7_when 38 = .ok (.iload_n 1, 1) := by decide +kernel
theorem dX7_when_39 : decode cX7_when 39 = .ok (.invokestatic 207, 3) := by decide +kernel
theorem dX7_when_42 : decode cX7_when 42 = .ok (.istore_n 3, 1) := by decide +kernel
theorem dX7_when_43 : decode cX7_when 43 = .ok (.iinc 2 1, 3) := by decide +kernel
theorem dX7_when_46 : decode cX7_when 46 = .ok (.goto (-28), 3) := by decide +kernel
theorem dX7_when_49 : decode cX7_when 49 = .ok (.aload_n 0, 1) := by decide +kernel
theorem dX7_when_50 : decode cX7_when 50 = .ok (.invokevirtual 256, 3) := by decide +kernel
theorem dX7_when_53 : decode cX7_when 53 = .ok (.iload_n 3, 1) := by decide +kernel
theorem dX7_when_54 : decode cX7_when 54 = .ok (.ifCond .eq 15, 3) := by decide +kernel
theorem dX7_when_57 : decode cX7_when 57 = .ok (.aload_n 0, 1) := by decide +kernel
theorem dX7_when_58 : decode cX7_when 58 = .ok (.aload_n 0, 1) := by decide +kernel
theorem dX7_when_59 : decode cX7_when 59 = .ok (.getfield 231, 3) := by decide +kernel
theorem dX7_when_62 : decode cX7_when 62 = .ok (.iload_n 2, 1) := by decide +kernel
theorem dX7_when_63 : decode cX7_when 63 = .ok (.invokevirtual 109, 3) := by decide +kernel
theorem dX7_when_66 : decode cX7_when 66 = .ok (.goto 5, 3) := by decide +kernel
theorem dX7_when_69 : decode cX7_when 69 = .ok (.bipush (-9), 2) := by decide +kernel
theorem dX7_when_71 : decode cX7_when 71 = .ok (.ireturn, 1) := by decide +kernel
theorem dX7_lookAhead_0 : decode cX7_lookAhead 0 = .ok (.aload_n 0, 1) := by decide +kernel
theorem dX7_lookAhead_1 : decode cX7_lookAhead 1 = .ok (.invokevirtual 253, 3) := by decide +kernel
theorem dX7_lookAhead_4 : decode cX7_lookAhead 4 = .ok (.aload_n 0, 1) := by decide +kernel
theorem dX7_lookAhead_5 : decode cX7_lookAhead 5 = .ok (.iconst 0, 1) := by decide +kernel
theorem dX7_lookAhead_6 : decode cX7_lookAhead 6 = .ok (.putfield 259, 3) := by decide +kernel
theorem dX7_lookAhead_9 : decode cX7_lookAhead 9 = .ok (.aload_n 0, 1) := by decide +kernel
theorem dX7_lookAhead_10 : decode cX7_lookAhead 10 = .ok (.iconst 0, 1) := by decide +kernel
theorem dX7_lookAhead_11 : decode cX7_lookAhead 11 = .ok (.putfield 262, 3) := by decide +kernel
theorem dX7_lookAhead_14 : decode cX7_lookAhead 14 = .ok (.iconst 0, 1) := by decide +kernel
theorem dX7_lookAhead_15 : decode cX7_lookAhead 15 = .ok (.istore_n 2, 1) := by decide +kernel
theorem dX7_lookAhead_16 : decode cX7_lookAhead 16 = .ok (.iload_n 2, 1) := by decide +kernel
theorem dX7_lookAhead_17 : decode cX7_lookAhead 17 = .ok (.iload_n 1, 1) := by decide +kernel
theorem dX7_lookAhead_18 : decode cX7_lookAhead 18 = .ok (.if_icmp .ge 42, 3) := by decide +kernel
theorem dX7_lookAhead_21 : decode cX7_lookAhead 21 = .ok (.aload_n 0, 1) := by decide +kernel
theorem dX7_lookAhead_22 : decode cX7_lookAhead 22 = .ok (.iconst 0, 1) := by decide +kernel
theorem dX7_lookAhead_23 : decode cX7_lookAhead 23 = .ok (.bipush (-9), 2) := by decide +kernel
theorem dX7_lookAhead_25 : decode cX7_lookAhead 25 = .ok (.invokevirtual 241, 3) := by decide +kernel
theorem dX7_lookAhead_28 : decode cX7_lookAhead 28 = .ok (.aload_n 0, 1) := by decide +kernel
theorem dX7_lookAhead_29 : decode cX7_lookAhead 29 = .ok (.dup, 1) := by decide +kernel
theorem dX7_lookAhead_30 : decode cX7_lookAhead 30 = .ok (.getfield 259, 3) := by decide +kernel
theorem dX7_lookAhead_33 : decode cX7_lookAhead 33 = .ok (.aload_n 0, 1) := by decide +kernel
theorem dX7_lookAhead_34 : decode cX7_lookAhead 34 = .ok (.getfield 218, 3) := by decide +kernel
theorem dX7_lookAhead_37 : decode cX7_lookAhead 37 = .ok (.ior, 1) := by decide +kernel
theorem dX7_lookAhead_38 : decode cX7_lookAhead 38 = .ok (.putfield 259, 3) := by decide +kernel
theorem dX7_lookAhead_41 : decode cX7_lookAhead 41 = .ok (.aload_n 0, 1) := by decide +kernel
theorem dX7_lookAhead_42 : decode cX7_lookAhead 42 = .ok (.dup, 1) := by decide +kernel
theorem dX7_lookAhead_43 : decode cX7_lookAhead 43 = .ok (.getfield 262, 3) := by decide +kernel
theorem dX7_lookAhead_46 : decode cX7_lookAhead 46 = .ok (.aload_n 0, 1) := by decide +kernel
theorem dX7_lookAhead_47 : decode cX7_lookAhead 47 = .ok (.getfield 221, 3) := by decide +kernel
theorem dX7_lookAhead_50 : decode cX7_lookAhead 50 = .ok (.iadd, 1) := by decide +kernel
theorem dX7_lookAhead_51 : decode cX7_lookAhead 51 = .ok (.putfield 262, 3) := by decide +kernel
theorem dX7_lookAhead_54 : decode cX7_lookAhead 54 = .ok (.iinc 2 1, 3) := by decide +kernel
theorem dX7_lookAhead_57 : decode cX7_lookAhead 57 = .ok (.goto (-41), 3) := by decide +kernel
theorem dX7_lookAhead_60 : decode cX7_lookAhead 60 = .ok (.aload_n 0, 1) := by decide +kernel
theorem dX7_lookAhead_61 : decode cX7_lookAhead 61 = .ok (.invokevirtual 256, 3) := by decide +kernel
theorem dX7_lookAhead_64 : decode cX7_lookAhead 64 = .ok (.return_, 1) := by decide +kernel
theorem dX7_bought_0 : decode cX7_bought 0 = .ok (.iload_n 1, 1) := by decide +kernel
theorem dX7_bought_1 : decode cX7_bought 1 = .ok (.iconst 0, 1) := by decide +kernel
theorem dX7_bought_2 : decode cX7_bought 2 = .ok (.bipush 60, 2) := by decide +kernel
theorem dX7_bought_4 : decode cX7_bought 4 = .ok (.invokestatic 83, 3) := by decide +kernel
theorem dX7_bought_7 : decode cX7_bought 7 = .ok (.ifCond .ne 5, 3) := by decide +kernel
theorem dX7_bought_10 : decode cX7_bought 10 = .ok (.iconst (-1), 1) := by decide +kernel
theorem dX7_bought_11 : decode cX7_bought 11 = .ok (.ireturn, 1) := by decide +kernel
theorem dX7_bought_12 : decode cX7_bought 12 = .ok (.aload_n 0, 1) := by decide +kernel
theorem dX7_bought_13 : decode cX7_bought 13 = .ok (.iload_n 1, 1) := by decide +kernel
theorem dX7_bought_14 : decode cX7_bought 14 = .ok (.invokevirtual 265, 3) := by decide +kernel
theorem dX7_bought_17 : decode cX7_bought 17 = .ok (.aload_n 0, 1) := by decide +kernel
theorem dX7_bought_18 : decode cX7_bought 18 = .ok (.aload_n 0, 1) := by decide +kernel
theorem dX7_bought_19 : decode cX7_bought 19 = .ok (.getfield 262, 3) := by decide +kernel
theorem dX7_bought_22 : decode cX7_bought 22 = .ok (.aload_n 0, 1) := by decide +kernel
theorem dX7_bought_23 : decode cX7_bought 23 = .ok (.getfield 259, 3) := by decide +kernel
theorem dX7_bought_26 : decode cX7_bought 26 = .ok (.invokestatic 192, 3) := by decide +kernel
theorem dX7_bought_29 : decode cX7_bought 29 = .ok (.invokevirtual 109, 3) := by decide +kernel
theorem dX7_bought_32 : decode cX7_bought 32 = .ok (.ireturn, 1) := by decide +kernel
theorem dX7_isPast_0 : decode cX7_isPast 0 = .ok (.iconst 1, 1) := by decide +kernel
theorem dX7_isPast_1 : decode cX7_isPast 1 = .ok (.istore_n 2, 1) := by decide +kernel
theorem dX7_isPast_2 : decode cX7_isPast 2 = .ok (.iconst 0, 1) := by decide +kernel
theorem dX7_isPast_3 : decode cX7_isPast 3 = .ok (.istore_n 3, 1) := by decide +kernel
theorem dX7_isPast_4 : decode cX7_isPast 4 = .ok (.iload_n 3, 1) := by decide +kernel
theorem dX7_isPast_5 : decode cX7_isPast 5 = .ok (.aload_n 0, 1) := by decide +kernel
theorem dX7_isPast_6 : decode cX7_isPast 6 = .ok (.getfield 151, 3) := by decide +kernel
theorem dX7_isPast_9 : decode cX7_isPast 9 = .ok (.if_icmp .ge 56, 3) := by decide +kernel
theorem dX7_isPast_12 : decode cX7_isPast 12 = .ok (.iload_n 2, 1) := by decide +kernel
theorem dX7_isPast_13 : decode cX7_isPast 13 = .ok (.ifCond .eq 44, 3) := by decide +kernel
theorem dX7_isPast_16 : decode cX7_isPast 16 = .ok (.aload_n 0, 1) := by decide +kernel
theorem dX7_isPast_17 : decode cX7_isPast 17 = .ok (.getfield 61, 3) := by decide +kernel
theorem dX7_isPast_20 : decode cX7_isPast 20 = .ok (.iload_n 1, 1) := by decide +kernel
theorem dX7_isPast_21 : decode cX7_isPast 21 = .ok (.iload_n 3, 1) := by decide +kernel
theorem dX7_isPast_22 : decode cX7_isPast 22 = .ok (.iadd, 1) := by decide +kernel
theorem dX7_isPast_23 : decode cX7_isPast 23 = .ok (.iaload, 1) := by decide +kernel
theorem dX7_isPast_24 : decode cX7_isPast 24 = .ok (.aload_n 0, 1) := by decide +kernel
theorem dX7_isPast_25 : decode cX7_isPast 25 = .ok (.getfield 31, 3) := by decide +kernel
theorem dX7_isPast_28 : decode cX7_isPast 28 = .ok (.iload_n 3, 1) := by decide +kernel
theorem dX7_isPast_29 : decode cX7_isPast 29 = .ok (.iaload, 1) := by decide +kernel
theorem dX7_isPast_30 : decode cX7_isPast 30 = .ok (.if_icmp .ne 27, 3) := by decide +kernel
theorem dX7_isPast_33 : decode cX7_isPast 33 = .ok (.aload_n 0, 1) := by decide +kernel
theorem dX7_isPast_34 : decode cX7_isPast 34 = .ok (.getfield 61, 3) := by decide +kernel
theorem dX7_isPast_37 : decode cX7_isPast 37 = .ok (.iload_n 1, 1) := by decide +kernel
theorem dX7_isPast_38 : decode cX7_isPast 38 = .ok (.bipush 6, 2) := by decide +kernel
theorem dX7_isPast_40 : decode cX7_isPast 40 = .ok (.iadd, 1) := by decide +kernel
theorem dX7_isPast_41 : decode cX7_isPast 41 = .ok (.iload_n 3, 1) := by decide +kernel
theorem dX7_isPast_42 : decode cX7_isPast 42 = .ok (.iadd, 1) := by decide +kernel
theorem dX7_isPast_43 : decode cX7_isPast 43 = .ok (.iaload, 1) := by decide +kernel
theorem dX7_isPast_44 : decode cX7_isPast 44 = .ok (.aload_n 0, 1) := by decide +kernel
theorem dX7_isPast_45 : decode cX7_isPast 45 = .ok (.getfield 34, 3) := by decide +kernel
theorem dX7_isPast_48 : decode cX7_isPast 48 = .ok (.iload_n 3, 1) := by decide +kernel
theorem dX7_isPast_49 : decode cX7_isPast 49 = .ok (.iaload, 1) := by decide +kernel
theorem dX7_isPast_50 : decode cX7_isPast 50 = .ok (.if_icmp .ne 7, 3) := by decide +kernel
theorem dX7_isPast_53 : decode cX7_isPast 53 = .ok (.iconst 1, 1) := by decide +kernel
theorem dX7_isPast_54 : decode cX7_isPast 54 = .ok (.goto 4, 3) := by decide +kernel
theorem dX7_isPast_57 : decode cX7_isPast 57 = .ok (.iconst 0, 1) := by decide +kernel
theorem dX7_isPast_58 : decode cX7_isPast 58 = .ok (.istore_n 2, 1) := by decide +kernel
theorem dX7_isPast_59 : decode cX7_isPast 59 = .ok (.iinc 3 1, 3) := by decide +kernel
theorem dX7_isPast_62 : decode cX7_isPast 62 = .ok (.goto (-58), 3) := by decide +kernel
theorem dX7_isPast_65 : decode cX7_isPast 65 = .ok (.iload_n 2, 1) := by decide +kernel
theorem dX7_isPast_66 : decode cX7_isPast 66 = .ok (.ireturn, 1) := by decide +kernel
theorem dX7_setPast_0 : decode cX7_setPast 0 = .ok (.iconst 0, 1) := by decide +kernel
theorem dX7_setPast_1 : decode cX7_setPast 1 = .ok (.istore_n 2, 1) := by decide +kernel
theorem dX7_setPast_2 : decode cX7_setPast 2 = .ok (.iload_n 2, 1) := by decide +kernel
theorem dX7_setPast_3 : decode cX7_setPast 3 = .ok (.aload_n 0, 1) := by decide +kernel
theorem dX7_setPast_4 : decode cX7_setPast 4 = .ok (.getfield 151, 3) := by decide +kernel
theorem dX7_setPast_7 : decode cX7_setPast 7 = .ok (.if_icmp .ge 40, 3) := by decide +kernel
theorem dX7_setPast_10 : decode cX7_setPast 10 = .ok (.aload_n 0, 1) := by decide +kernel
theorem dX7_setPast_11 : decode cX7_setPast 11 = .ok (.getfield 61, 3) := by decide +kernel
theorem dX7_setPast_14 : decode cX7_setPast 14 = .ok (.iload_n 1, 1) := by decide +kernel
theorem dX7_setPast_15 : decode cX7_setPast 15 = .ok (.iload_n 2, 1) := by decide +kernel
theorem dX7_setPast_16 : decode cX7_setPast 16 = .ok (.iadd, 1) := by decide +kernel
theorem dX7_setPast_17 : decode cX7_setPast 17 = .ok (.aload_n 0, 1) := by decide +kernel
theorem dX7_setPast_18 : decode cX7_setPast 18 = .ok (.getfield 31, 3) := by decide +kernel
theorem dX7_setPast_21 : decode cX7_setPast 21 = .ok (.iload_n 2, 1) := by decide +kernel
theorem dX7_setPast_22 : decode cX7_setPast 22 = .ok (.iaload, 1) := by decide +kernel
theorem dX7_setPast_23 : decode cX7_setPast 23 = .ok (.iastore, 1) := by decide +kernel
theorem dX7_setPast_24 : decode cX7_setPast 24 = .ok (.aload_n 0, 1) := by decide +kernel
theorem dX7_setPast_25 : decode cX7_setPast 25 = .ok (.getfield 61, 3) := by decide +kernel
theorem dX7_setPast_28 : decode cX7_setPast 28 = .ok (.iload_n 1, 1) := by decide +kernel
theorem dX7_setPast_29 : decode cX7_setPast 29 = .ok (.bipush 6, 2) := by decide +kernel
theorem dX7_setPast_31 : decode cX7_setPast 31 = .ok (.iadd, 1) := by decide +kernel
theorem dX7_setPast_32 : decode cX7_setPast 32 = .ok (.iload_n 2, 1) := by decide +kernel
theorem dX7_setPast_33 : decode cX7_setPast 33 = .ok (.iadd, 1) := by decide +kernel
theorem dX7_setPast_34 : decode cX7_setPast 34 = .ok (.aload_n 0, 1) := by decide +kernel
theorem dX7_setPast_35 : decode cX7_setPast 35 = .ok (.getfield 34, 3) := by decide +kernel
theorem dX7_setPast_38 : decode cX7_setPast 38 = .ok (.iload_n 2, 1) := by decide +kernel
theorem dX7_setPast_39 : decode cX7_setPast 39 = .ok (.iaload, 1) := by decide +kernel
theorem dX7_setPast_40 : decode cX7_setPast 40 = .ok (.iastore, 1) := by decide +kernel
theorem dX7_setPast_41 : decode cX7_setPast 41 = .ok (.iinc 2 1, 3) := by decide +kernel
theorem dX7_setPast_44 : decode cX7_setPast 44 = .ok (.goto (-42), 3) := by decide +kernel
theorem dX7_setPast_47 : decode cX7_setPast 47 = .ok (.return_, 1) := by decide +kernel
theorem dX7_wanting_0 : decode cX7_wanting 0 = .ok (.iconst 0, 1) := by decide +kernel
theorem dX7_wanting_1 : decode cX7_wanting 1 = .ok (.istore_n 1, 1) := by decide +kernel
theorem dX7_wanting_2 : decode cX7_wanting 2 = .ok (.iconst 0, 1) := by decide +kernel
theorem dX7_wanting_3 : decode cX7_wanting 3 = .ok (.istore_n 2, 1) := by decide +kernel
theorem dX7_wanting_4 : decode cX7_wanting 4 = .ok (.iload_n 2, 1) := by decide +kernel
theorem dX7_wanting_5 : decode cX7_wanting 5 = .ok (.aload_n 0, 1) := by decide +kernel
theorem dX7_wanting_6 : decode cX7_wanting 6 = .ok (.getfield 151, 3) := by decide +kernel
theorem dX7_wanting_9 : decode cX7_wanting 9 = .ok (.if_icmp .ge 27, 3) := by decide +kernel
theorem dX7_wanting_12 : decode cX7_wanting 12 = .ok (.iload_n 1, 1) := by decide +kernel
theorem dX7_wanting_13 : decode cX7_wanting 13 = .ok (.aload_n 0, 1) := by decide +kernel
theorem dX7_wanting_14 : decode cX7_wanting 14 = .ok (.getfield 34, 3) := by decide +kernel
theorem dX7_wanting_17 : decode cX7_wanting 17 = .ok (.iload_n 2, 1) := by decide +kernel
theorem dX7_wanting_18 : decode cX7_wanting 18 = .ok (.iaload, 1) := by decide +kernel
theorem dX7_wanting_19 : decode cX7_wanting 19 = .ok (.iconst 4, 1) := by decide +kernel
theorem dX7_wanting_20 : decode cX7_wanting 20 = .ok (.if_icmp .ne 7, 3) := by decide +kernel
theorem dX7_wanting_23 : decode cX7_wanting 23 = .ok (.iconst 0, 1) := by decide +kernel
theorem dX7_wanting_24 : decode cX7_wanting 24 = .ok (.goto 4, 3) := by decide +kernel
theorem dX7_wanting_27 : decode cX7_wanting 27 = .ok (.iconst 1, 1) := by decide +kernel
theorem dX7_wanting_28 : decode cX7_wanting 28 = .ok (.iadd, 1) := by decide +kernel
theorem dX7_wanting_29 : decode cX7_wanting 29 = .ok (.istore_n 1, 1) := by decide +kernel
theorem dX7_wanting_30 : decode cX7_wanting 30 = .ok (.iinc 2 1, 3) := by decide +kernel
theorem dX7_wanting_33 : decode cX7_wanting 33 = .ok (.goto (-29), 3) := by decide +kernel
theorem dX7_wanting_36 : decode cX7_wanting 36 = .ok (.iload_n 1, 1) := by decide +kernel
theorem dX7_wanting_37 : decode cX7_wanting 37 = .ok (.ireturn, 1) := by decide +kernel
theorem dX7_rest_0 : decode cX7_rest 0 = .ok (.aload_n 0, 1) := by decide +kernel
theorem dX7_rest_1 : decode cX7_rest 1 = .ok (.getfield 151, 3) := by decide +kernel
theorem dX7_rest_4 : decode cX7_rest 4 = .ok (.ifCond .ne 6, 3) := by decide +kernel
theorem dX7_rest_7 : decode cX7_rest 7 = .ok (.bipush (-4), 2) := by decide +kernel
theorem dX7_rest_9 : decode cX7_rest 9 = .ok (.ireturn, 1) := by decide +kernel
theorem dX7_rest_10 : decode cX7_rest 10 = .ok (.aload_n 0, 1) := by decide +kernel
theorem dX7_rest_11 : decode cX7_rest 11 = .ok (.invokevirtual 253, 3) := by decide +kernel
theorem dX7_rest_14 : decode cX7_rest 14 = .ok (.aload_n 0, 1) := by decide +kernel
theorem dX7_rest_15 : decode cX7_rest 15 = .ok (.iconst 0, 1) := by decide +kernel
theorem dX7_rest_16 : decode cX7_rest 16 = .ok (.invokevirtual 268, 3) := by decide +kernel
theorem dX7_rest_19 : decode cX7_rest 19 = .ok (.iconst 0, 1) := by decide +kernel
theorem dX7_rest_20 : decode cX7_rest 20 = .ok (.istore_n 1, 1) := by decide +kernel
theorem dX7_rest_21 : decode cX7_rest 21 = .ok (.iconst 0, 1) := by decide +kernel
theorem dX7_rest_22 : decode cX7_rest 22 = .ok (.istore_n 2, 1) := by decide +kernel
theorem dX7_rest_23 : decode cX7_rest 23 = .ok (.iconst 0, 1) := by decide +kernel
theorem dX7_rest_24 : decode cX7_rest 24 = .ok (.istore_n 3, 1) := by decide +kernel
theorem dX7_rest_25 : decode cX7_rest 25 = .ok (.iload_n 1, 1) := by decide +kernel
theorem dX7_rest_26 : decode cX7_rest 26 = .ok (.sipush 200, 3) := by decide +kernel
theorem dX7_rest_29 : decode cX7_rest 29 = .ok (.if_icmp .ge 62, 3) := by decide +kernel
theorem dX7_rest_32 : decode cX7_rest 32 = .ok (.iload_n 3, 1) := by decide +kernel
theorem dX7_rest_33 : decode cX7_rest 33 = .ok (.ifCond .ne 58, 3) := by decide +kernel
theorem dX7_rest_36 : decode cX7_rest 36 = .ok (.aload_n 0, 1) := by decide +kernel
theorem dX7_rest_37 : decode cX7_rest 37 = .ok (.iconst 0, 1) := by decide +kernel
theorem dX7_rest_38 : decode cX7_rest 38 = .ok (.bipush (-9), 2) := by decide +kernel
theorem dX7_rest_40 : decode cX7_rest 40 = .ok (.invokevirtual 241, 3) := by decide +kernel
theorem dX7_rest_43 : decode cX7_rest 43 = .ok (.iinc 1 1, 3) := by decide +kernel
theorem dX7_rest_46 : decode cX7_rest 46 = .ok (.iload_n 1, 1) := by decide +kernel
theorem dX7_rest_47 : decode cX7_rest 47 = .ok (.bipush 7, 2) := by decide +kernel
theorem dX7_rest_49 : decode cX7_rest 49 = .ok (.if_icmp .lt 21, 3) := by decide +kernel
theorem dX7_rest_52 : decode cX7_rest 52 = .ok (.aload_n 0, 1) := by decide +kernel
theorem dX7_rest_53 : decode cX7_rest 53 = .ok (.bipush 12, 2) := by decide +kernel
theorem dX7_rest_55 : decode cX7_rest 55 = .ok (.iload_n 1, 1) := by decide +kernel
theorem dX7_rest_56 : decode cX7_rest 56 = .ok (.bipush 7, 2) := by decide +kernel
theorem dX7_rest_58 : decode cX7_rest 58 = .ok (.irem, 1) := by decide +kernel
theorem dX7_rest_59 : decode cX7_rest 59 = .ok (.imul, 1) := by decide +kernel
theorem dX7_rest_60 : decode cX7_rest 60 = .ok (.invokevirtual 271, 3) := by decide +kernel
theorem dX7_rest_63 : decode cX7_rest 63 = .ok (.ifCond .eq 7, 3) := by decide +kernel
theorem dX7_rest_66 : decode cX7_rest 66 = .ok (.iconst 1, 1) := by decide +kernel
theorem dX7_rest_67 : decode cX7_rest 67 = .ok (.goto 4, 3) := by decide +kernel
theorem dX7_rest_70 : decode cX7_rest 70 = .ok (.iconst 0, 1) := by decide +kernel
theorem dX7_rest_71 : decode cX7_rest 71 = .ok (.istore_n 3, 1) := by decide +kernel
theorem dX7_rest_72 : decode cX7_rest 72 = .ok (.aload_n 0, 1) := by decide +kernel
theorem dX7_rest_73 : decode cX7_rest 73 = .ok (.invokevirtual 274, 3) := by decide +kernel
theorem dX7_rest_76 : decode cX7_rest 76 = .ok (.istore_n 2, 1) := by decide +kernel
theorem dX7_rest_77 : decode cX7_rest 77 = .ok (.aload_n 0, 1) := by decide +kernel
theorem dX7_rest_78 : decode cX7_rest 78 = .ok (.bipush 12, 2) := by decide +kernel
theorem dX7_rest_80 : decode cX7_rest 80 = .ok (.iload_n 1, 1) := by decide +kernel
theorem dX7_rest_81 : decode cX7_rest 81 = .ok (.bipush 7, 2) := by decide +kernel
theorem dX7_rest_83 : decode cX7_rest 83 = .ok (.irem, 1) := by decide +kernel
theorem dX7_rest_84 : decode cX7_rest 84 = .ok (.imul, 1) := by decide +kernel
theorem dX7_rest_85 : decode cX7_rest 85 = .ok (.invokevirtual 268, 3) := by decide +kernel
theorem dX7_rest_88 : decode cX7_rest 88 = .ok (.goto (-63), 3) := by decide +kernel
theorem dX7_rest_91 : decode cX7_rest 91 = .ok (.aload_n 0, 1) := by decide +kernel
theorem dX7_rest_92 : decode cX7_rest 92 = .ok (.invokevirtual 256, 3) := by decide +kernel
theorem dX7_rest_95 : decode cX7_rest 95 = .ok (.iload_n 3, 1) := by decide +kernel
theorem dX7_rest_96 : decode cX7_rest 96 = .ok (.ifCond .eq 12, 3) := by decide +kernel
theorem dX7_rest_99 : decode cX7_rest 99 = .ok (.aload_n 0, 1) := by decide +kernel
theorem dX7_rest_100 : decode cX7_rest 100 = .ok (.iload_n 2, 1) := by decide +kernel
theorem dX7_rest_101 : decode cX7_rest 101 = .ok (.iload_n 1, 1) := by decide +kernel
theorem dX7_rest_102 : decode cX7_rest 102 = .ok (.invokevirtual 109, 3) := by decide +kernel
theorem dX7_rest_105 : decode cX7_rest 105 = .ok (.goto 5, 3) := by decide +kernel
theorem dX7_rest_108 : decode cX7_rest 108 = .ok (.bipush (-9), 2) := by decide +kernel
theorem dX7_rest_110 : decode cX7_rest 110 = .ok (.ireturn, 1) := by decide +kernel
theorem dX7_track_0 : decode cX7_track 0 = .ok (.iload_n 1, 1) := by decide +kernel
theorem dX7_track_1 : decode cX7_track 1 = .ok (.iconst 0, 1) := by decide +kernel
theorem dX7_track_2 : decode cX7_track 2 = .ok (.bipush 60, 2) := by decide +kernel
theorem dX7_track_4 : decode cX7_track 4 = .ok (.invokestatic 83, 3) := by decide +kernel
theorem dX7_track_7 : decode cX7_track 7 = .ok (.ifCond .eq 10, 3) := by decide +kernel
theorem dX7_track_10 : decode cX7_track 10 = .ok (.iload_n 2, 1) := by decide +kernel
theorem dX7_track_11 : decode cX7_track 11 = .ok (.invokestatic 87, 3) := by decide +kernel
theorem dX7_track_14 : decode cX7_track 14 = .ok (.ifCond .ne 5, 3) := by decide +kernel
theorem dX7_track_17 : decode cX7_track 17 = .ok (.iconst (-1), 1) := by decide +kernel
theorem dX7_track_18 : decode cX7_track 18 = .ok (.ireturn, 1) := by decide +kernel
theorem dX7_track_19 : decode cX7_track 19 = .ok (.aload_n 0, 1) := by decide +kernel
theorem dX7_track_20 : decode cX7_track 20 = .ok (.invokevirtual 253, 3) := by decide +kernel
theorem dX7_track_23 : decode cX7_track 23 = .ok (.iconst 0, 1) := by decide +kernel
theorem dX7_track_24 : decode cX7_track 24 = .ok (.istore_n 3, 1) := by decide +kernel
theorem dX7_track_25 : decode cX7_track 25 = .ok (.iload_n 3, 1) := by decide +kernel
theorem dX7_track_26 : decode cX7_track 26 = .ok (.iload_n 1, 1) := by decide +kernel
theorem dX7_track_27 : decode cX7_track 27 = .ok (.if_icmp .ge 16, 3) := by decide +kernel
theorem dX7_track_30 : decode cX7_track 30 = .ok (.aload_n 0, 1) := by decide +kernel
theorem dX7_track_31 : decode cX7_track 31 = .ok (.iconst 0, 1) := by decide +kernel
theorem dX7_track_32 : decode cX7_track 32 = .ok (.bipush (-9), 2) := by decide +kernel
theorem dX7_track_34 : decode cX7_track 34 = .ok (.invokevirtual 241, 3) := by decide +kernel
theorem dX7_track_37 : decode cX7_track 37 = .ok (.iinc 3 1, 3) := by decide +kernel
theorem dX7_track_40 : decode cX7_track 40 = .ok (.goto (-15), 3) := by decide +kernel
theorem dX7_track_43 : decode cX7_track 43 = .ok (.aload_n 0, 1) := by decide +kernel
theorem dX7_track_44 : decode cX7_track 44 = .ok (.iload_n 2, 1) := by decide +kernel
theorem dX7_track_45 : decode cX7_track 45 = .ok (.aload_n 0, 1) := by decide +kernel
theorem dX7_track_46 : decode cX7_track 46 = .ok (.getfield 151, 3) := by decide +kernel
theorem dX7_track_49 : decode cX7_track 49 = .ok (.invokevirtual 277, 3) := by decide +kernel
theorem dX7_track_52 : decode cX7_track 52 = .ok (.pop, 1) := by decide +kernel
theorem dX7_track_53 : decode cX7_track 53 = .ok (.iconst 0, 1) := by decide +kernel
theorem dX7_track_54 : decode cX7_track 54 = .ok (.istore_n 3, 1) := by decide +kernel
theorem dX7_track_55 : decode cX7_track 55 = .ok (.iload_n 3, 1) := by decide +kernel
theorem dX7_track_56 : decode cX7_track 56 = .ok (.aload_n 0, 1) := by decide +kernel
theorem dX7_track_57 : decode cX7_track 57 = .ok (.getfield 151, 3) := by decide +kernel
theorem dX7_track_60 : decode cX7_track 60 = .ok (.if_icmp .ge 21, 3) := by decide +kernel
theorem dX7_track_63 : decode cX7_track 63 = .ok (.aload_n 0, 1) := by decide +kernel
theorem dX7_track_64 : decode cX7_track 64 = .ok (.iload_n 2, 1) := by decide +kernel
theorem dX7_track_65 : decode cX7_track 65 = .ok (.iload_n 3, 1) := by decide +kernel
theorem dX7_track_66 : decode cX7_track 66 = .ok (.aload_n 0, 1) := by decide +kernel
theorem dX7_track_67 : decode cX7_track 67 = .ok (.getfield 31, 3) := by decide +kernel
theorem dX7_track_70 : decode cX7_track 70 = .ok (.iload_n 3, 1) := by decide +kernel
theorem dX7_track_71 : decode cX7_track 71 = .ok (.iaload, 1) := by decide +kernel
theorem dX7_track_72 : decode cX7_track 72 = .ok (.invokevirtual 98, 3) := by decide +kernel
theorem dX7_track_75 : decode cX7_track 75 = .ok (.iinc 3 1, 3) := by decide +kernel
theorem dX7_track_78 : decode cX7_track 78 = .ok (.goto (-23), 3) := by decide +kernel
theorem dX7_track_81 : decode cX7_track 81 = .ok (.aload_n 0, 1) := by decide +kernel
theorem dX7_track_82 : decode cX7_track 82 = .ok (.invokevirtual 224, 3) := by decide +kernel
theorem dX7_track_85 : decode cX7_track 85 = .ok (.istore_n 3, 1) := by decide +kernel
theorem dX7_track_86 : decode cX7_track 86 = .ok (.aload_n 0, 1) := by decide +kernel
theorem dX7_track_87 : decode cX7_track 87 = .ok (.invokevirtual 256, 3) := by decide +kernel
theorem dX7_track_90 : decode cX7_track 90 = .ok (.aload_n 0, 1) := by decide +kernel
theorem dX7_track_91 : decode cX7_track 91 = .ok (.iload_n 3, 1) := by decide +kernel
theorem dX7_track_92 : decode cX7_track 92 = .ok (.iconst 1, 1) := by decide +kernel
theorem dX7_track_93 : decode cX7_track 93 = .ok (.invokevirtual 109, 3) := by decide +kernel
theorem dX7_track_96 : decode cX7_track 96 = .ok (.ireturn, 1) := by decide +kernel
theorem dX7_isSpan_0 : decode cX7_isSpan 0 = .ok (.iload_n 0, 1) := by decide +kernel
theorem dX7_isSpan_1 : decode cX7_isSpan 1 = .ok (.iconst 0, 1) := by decide +kernel
theorem dX7_isSpan_2 : decode cX7_isSpan 2 = .ok (.bipush 20, 2) := by decide +kernel
theorem dX7_isSpan_4 : decode cX7_isSpan 4 = .ok (.invokestatic 83, 3) := by decide +kernel
theorem dX7_isSpan_7 : decode cX7_isSpan 7 = .ok (.ireturn, 1) := by decide +kernel
theorem dX7_orderOn_0 : decode cX7_orderOn 0 = .ok (.iload_n 1, 1) := by decide +kernel
theorem dX7_orderOn_1 : decode cX7_orderOn 1 = .ok (.aload_n 0, 1) := by decide +kernel
theorem dX7_orderOn_2 : decode cX7_orderOn 2 = .ok (.getfield 151, 3) := by decide +kernel
theorem dX7_orderOn_5 : decode cX7_orderOn 5 = .ok (.if_icmp .ne 98, 3) := by decide +kernel
theorem dX7_orderOn_8 : decode cX7_orderOn 8 = .ok (.iconst 0, 1) := by decide +kernel
theorem dX7_orderOn_9 : decode cX7_orderOn 9 = .ok (.istore_n 3, 1) := by decide +kernel
theorem dX7_orderOn_10 : decode cX7_orderOn 10 = .ok (.iload_n 3, 1) := by decide +kernel
theorem dX7_orderOn_11 : decode cX7_orderOn 11 = .ok (.aload_n 0, 1) := by decide +kernel
theorem dX7_orderOn_12 : decode cX7_orderOn 12 = .ok (.getfield 151, 3) := by decide +kernel
theorem dX7_orderOn_15 : decode cX7_orderOn 15 = .ok (.if_icmp .ge 26, 3) := by decide +kernel
theorem dX7_orderOn_18 : decode cX7_orderOn 18 = .ok (.aload_n 0, 1) := by decide +kernel
theorem dX7_orderOn_19 : decode cX7_orderOn 19 = .ok (.getfield 34, 3) := by decide +kernel
theorem dX7_orderOn_22 : decode cX7_orderOn 22 = .ok (.iload_n 3, 1) := by decide +kernel
theorem dX7_orderOn_23 : decode cX7_orderOn 23 = .ok (.aload_n 0, 1) := by decide +kernel
theorem dX7_orderOn_24 : decode cX7_orderOn 24 = .ok (.getfield 70, 3) := by decide +kernel
theorem dX7_orderOn_27 : decode cX7_orderOn 27 = .ok (.aload_n 0, 1) := by decide +kernel
theorem dX7_orderOn_28 : decode cX7_orderOn 28 = .ok (.getfield 64, 3) := by decide +kernel
theorem dX7_orderOn_31 : decode cX7_orderOn 31 = .ok (.iload_n 3, 1) := by decide +kernel
theorem dX7_orderOn_32 : decode cX7_orderOn 32 = .ok (.iaload, 1) := by decide +kernel
theorem dX7_orderOn_33 : decode cX7_orderOn 33 = .ok (.iaload, 1) := by decide +kernel
theorem dX7_orderOn_34 : decode cX7_orderOn 34 = .ok (.iastore, 1) := by decide +kernel
theorem dX7_orderOn_35 : decode cX7_orderOn 35 = .ok (.iinc 3 1, 3) := by decide +kernel
theorem dX7_orderOn_38 : decode cX7_orderOn 38 = .ok (.goto (-28), 3) := by decide +kernel
theorem dX7_orderOn_41 : decode cX7_orderOn 41 = .ok (.aload_n 0, 1) := by decide +kernel
theorem dX7_orderOn_42 : decode cX7_orderOn 42 = .ok (.aload_n 0, 1) := by decide +kernel
theorem dX7_orderOn_43 : decode cX7_orderOn 43 = .ok (.getfield 280, 3) := by decide +kernel
theorem dX7_orderOn_46 : decode cX7_orderOn 46 = .ok (.invokevirtual 265, 3) := by decide +kernel
theorem dX7_orderOn_49 : decode cX7_orderOn 49 = .ok (.aload_n 0, 1) := by decide +kernel
theorem dX7_orderOn_50 : decode cX7_orderOn 50 = .ok (.getfield 259, 3) := by decide +kernel
theorem dX7_orderOn_53 : decode cX7_orderOn 53 = .ok (.invokestatic 192, 3) := by decide +kernel
theorem dX7_orderOn_56 : decode cX7_orderOn 56 = .ok (.istore_n 3, 1) := by decide +kernel
theorem dX7_orderOn_57 : decode cX7_orderOn 57 = .ok (.iload_n 3, 1) := by decide +kernel
theorem dX7_orderOn_58 : decode cX7_orderOn 58 = .ok (.aload_n 0, 1) := by decide +kernel
theorem dX7_orderOn_59 : decode cX7_orderOn 59 = .ok (.getfield 283, 3) := by decide +kernel
theorem dX7_orderOn_62 : decode cX7_orderOn 62 = .ok (.if_icmp .le 40, 3) := by decide +kernel
theorem dX7_orderOn_65 : decode cX7_orderOn 65 = .ok (.aload_n 0, 1) := by decide +kernel
theorem dX7_orderOn_66 : decode cX7_orderOn 66 = .ok (.iload_n 3, 1) := by decide +kernel
theorem dX7_orderOn_67 : decode cX7_orderOn 67 = .ok (.putfield 283, 3) := by decide +kernel
theorem dX7_orderOn_70 : decode cX7_orderOn 70 = .ok (.iconst 0, 1) := by decide +kernel
theorem dX7_orderOn_71 : decode cX7_orderOn 71 = .ok (.istore 4, 2) := by decide +kernel
theorem dX7_orderOn_73 : decode cX7_orderOn 73 = .ok (.iload 4, 2) := by decide +kernel
theorem dX7_orderOn_75 : decode cX7_orderOn 75 = .ok (.aload_n 0, 1) := by decide +kernel
theorem dX7_orderOn_76 : decode cX7_orderOn 76 = .ok (.getfield 151, 3) := by decide +kernel
theorem dX7_orderOn_79 : decode cX7_orderOn 79 = .ok (.if_icmp .ge 23, 3) := by decide +kernel
theorem dX7_orderOn_82 : decode cX7_orderOn 82 = .ok (.aload_n 0, 1) := by decide +kernel
theorem dX7_orderOn_83 : decode cX7_orderOn 83 = .ok (.getfield 67, 3) := by decide +kernel
theorem dX7_orderOn_86 : decode cX7_orderOn 86 = .ok (.iload 4, 2) := by decide +kernel
theorem dX7_orderOn_88 : decode cX7_orderOn 88 = .ok (.aload_n 0, 1) := by decide +kernel
theorem dX7_orderOn_89 : decode cX7_orderOn 89 = .ok (.getfield 64, 3) := by decide +kernel
theorem dX7_orderOn_92 : decode cX7_orderOn 92 = .ok (.iload 4, 2) := by decide +kernel
theorem dX7_orderOn_94 : decode cX7_orderOn 94 = .ok (.iaload, 1) := by decide +kernel
theorem dX7_orderOn_95 : decode cX7_orderOn 95 = .ok (.iastore, 1) := by decide +kernel
theorem dX7_orderOn_96 : decode cX7_orderOn 96 = .ok (.iinc 4 1, 3) := by decide +kernel
theorem dX7_orderOn_99 : decode cX7_orderOn 99 = .ok (.goto (-26), 3) := by decide +kernel
theorem dX7_orderOn_102 : decode cX7_orderOn 102 = .ok (.return_, 1) := by decide +kernel
theorem dX7_orderOn_103 : decode cX7_orderOn 103 = .ok (.iconst 0, 1) := by decide +kernel
theorem dX7_orderOn_104 : decode cX7_orderOn 104 = .ok (.istore_n 3, 1) := by decide +kernel
theorem dX7_orderOn_105 : decode cX7_orderOn 105 = .ok (.iload_n 3, 1) := by decide +kernel
theorem dX7_orderOn_106 : decode cX7_orderOn 106 = .ok (.aload_n 0, 1) := by decide +kernel
theorem dX7_orderOn_107 : decode cX7_orderOn 107 = .ok (.getfield 151, 3) := by decide +kernel
theorem dX7_orderOn_110 : decode cX7_orderOn 110 = .ok (.if_icmp .ge 38, 3) := by decide +kernel
theorem dX7_orderOn_113 : decode cX7_orderOn 113 = .ok (.iload_n 2, 1) := by decide +kernel
theorem dX7_orderOn_114 : decode cX7_orderOn 114 = .ok (.iload_n 3, 1) := by decide +kernel
theorem dX7_orderOn_115 : decode cX7_orderOn 115 = .ok (.invokestatic 207, 3) := by decide +kernel
theorem dX7_orderOn_118 : decode cX7_orderOn 118 = .ok (.ifCond .eq 24, 3) := by decide +kernel
theorem dX7_orderOn_121 : decode cX7_orderOn 121 = .ok (.aload_n 0, 1) := by decide +kernel
theorem dX7_orderOn_122 : decode cX7_orderOn 122 = .ok (.getfield 64, 3) := by decide +kernel
theorem dX7_orderOn_125 : decode cX7_orderOn 125 = .ok (.iload_n 1, 1) := by decide +kernel
theorem dX7_orderOn_126 : decode cX7_orderOn 126 = .ok (.iload_n 3, 1) := by decide +kernel
theorem dX7_orderOn_127 : decode cX7_orderOn 127 = .ok (.iastore, 1) := by decide +kernel
theorem dX7_orderOn_128 : decode cX7_orderOn 128 = .ok (.aload_n 0, 1) := by decide +kernel
theorem dX7_orderOn_129 : decode cX7_orderOn 129 = .ok (.iload_n 1, 1) := by decide +kernel
theorem dX7_orderOn_130 : decode cX7_orderOn 130 = .ok (.iconst 1, 1) := by decide +kernel
theorem dX7_orderOn_131 : decode cX7_orderOn 131 = .ok (.iadd, 1) := by decide +kernel
theorem dX7_orderOn_132 : decode cX7_orderOn 132 = .ok (.iload_n 2, 1) := by decide +kernel
theorem dX7_orderOn_133 : decode cX7_orderOn 133 = .ok (.iconst 1, 1) := by decide +kernel
theorem dX7_orderOn_134 : decode cX7_orderOn 134 = .ok (.iload_n 3, 1) := by decide +kernel
theorem dX7_orderOn_135 : decode cX7_orderOn 135 = .ok (.ishl, 1) := by decide +kernel
theorem dX7_orderOn_136 : decode cX7_orderOn 136 = .ok (.iconst (-1), 1) := by decide +kernel
theorem dX7_orderOn_137 : decode cX7_orderOn 137 = .ok (.ixor, 1) := by decide +kernel
theorem dX7_orderOn_138 : decode cX7_orderOn 138 = .ok (.iand, 1) := by decide +kernel
theorem dX7_orderOn_139 : decode cX7_orderOn 139 = .ok (.invokevirtual 286, 3) := by decide +kernel
theorem dX7_orderOn_142 : decode cX7_orderOn 142 = .ok (.iinc 3 1, 3) := by decide +kernel
theorem dX7_orderOn_145 : decode cX7_orderOn 145 = .ok (.goto (-40), 3) := by decide +kernel
theorem dX7_orderOn_148 : decode cX7_orderOn 148 = .ok (.return_, 1) := by decide +kernel
theorem dX7_best_0 : decode cX7_best 0 = .ok (.iload_n 1, 1) := by decide +kernel
theorem dX7_best_1 : decode cX7_best 1 = .ok (.invokestatic 289, 3) := by decide +kernel
theorem dX7_best_4 : decode cX7_best 4 = .ok (.ifCond .eq 10, 3) := by decide +kernel
theorem dX7_best_7 : decode cX7_best 7 = .ok (.iload_n 2, 1) := by decide +kernel
theorem dX7_best_8 : decode cX7_best 8 = .ok (.invokestatic 87, 3) := by decide +kernel
theorem dX7_best_11 : decode cX7_best 11 = .ok (.ifCond .ne 5, 3) := by decide +kernel
theorem dX7_best_14 : decode cX7_best 14 = .ok (.iconst (-1), 1) := by decide +kernel
theorem dX7_best_15 : decode cX7_best 15 = .ok (.ireturn, 1) := by decide +kernel
theorem dX7_best_16 : decode cX7_best 16 = .ok (.aload_n 0, 1) := by decide +kernel
theorem dX7_best_17 : decode cX7_best 17 = .ok (.getfield 151, 3) := by decide +kernel
theorem dX7_best_20 : decode cX7_best 20 = .ok (.ifCond .ne 6, 3) := by decide +kernel
theorem dX7_best_23 : decode cX7_best 23 = .ok (.bipush (-4), 2) := by decide +kernel
theorem dX7_best_25 : decode cX7_best 25 = .ok (.ireturn, 1) := by decide +kernel
theorem dX7_best_26 : decode cX7_best 26 = .ok (.iconst 0, 1) := by decide +kernel
theorem dX7_best_27 : decode cX7_best 27 = .ok (.istore_n 3, 1) := by decide +kernel
theorem dX7_best_28 : decode cX7_best 28 = .ok (.iload_n 3, 1) := by decide +kernel
theorem dX7_best_29 : decode cX7_best 29 = .ok (.aload_n 0, 1) := by decide +kernel
theorem dX7_best_30 : decode cX7_best 30 = .ok (.getfield 151, 3) := by decide +kernel
theorem dX7_best_33 : decode cX7_best 33 = .ok (.if_icmp .ge 21, 3) := by decide +kernel
theorem dX7_best_36 : decode cX7_best 36 = .ok (.aload_n 0, 1) := by decide +kernel
theorem dX7_best_37 : decode cX7_best 37 = .ok (.getfield 70, 3) := by decide +kernel
theorem dX7_best_40 : decode cX7_best 40 = .ok (.iload_n 3, 1) := by decide +kernel
theorem dX7_best_41 : decode cX7_best 41 = .ok (.aload_n 0, 1) := by decide +kernel
theorem dX7_best_42 : decode cX7_best 42 = .ok (.getfield 34, 3) := by decide +kernel
theorem dX7_best_45 : decode cX7_best 45 = .ok (.iload_n 3, 1) := by decide +kernel
theorem dX7_best_46 : decode cX7_best 46 = .ok (.iaload, 1) := by decide +kernel
theorem dX7_best_47 : decode cX7_best 47 = .ok (.iastore, 1) := by decide +kernel
theorem dX7_best_48 : decode cX7_best 48 = .ok (.iinc 3 1, 3) := by decide +kernel
theorem dX7_best_51 : decode cX7_best 51 = .ok (.goto (-23), 3) := by decide +kernel
theorem dX7_best_54 : decode cX7_best 54 = .ok (.aload_n 0, 1) := by decide +kernel
theorem dX7_best_55 : decode cX7_best 55 = .ok (.iload_n 1, 1) := by decide +kernel
theorem dX7_best_56 : decode cX7_best 56 = .ok (.putfield 280, 3) := by decide +kernel
theorem dX7_best_59 : decode cX7_best 59 = .ok (.aload_n 0, 1) := by decide +kernel
theorem dX7_best_60 : decode cX7_best 60 = .ok (.iconst (-1), 1) := by decide +kernel
theorem dX7_best_61 : decode cX7_best 61 = .ok (.putfield 283, 3) := by decide +kernel
theorem dX7_best_64 : decode cX7_best 64 = .ok (.aload_n 0, 1) := by decide +kernel
theorem dX7_best_65 : decode cX7_best 65 = .ok (.iconst 0, 1) := by decide +kernel
theorem dX7_best_66 : decode cX7_best 66 = .ok (.iconst 1, 1) := by decide +kernel
theorem dX7_best_67 : decode cX7_best 67 = .ok (.aload_n 0, 1) := by decide +kernel
theorem dX7_best_68 : decode cX7_best 68 = .ok (.getfield 151, 3) := by decide +kernel
theorem dX7_best_71 : decode cX7_best 71 = .ok (.ishl, 1) := by decide +kernel
theorem dX7_best_72 : decode cX7_best 72 = .ok (.iconst 1, 1) := by decide +kernel
theorem dX7_best_73 : decode cX7_best 73 = .ok (.isub, 1) := by decide +kernel
theorem dX7_best_74 : decode cX7_best 74 = .ok (.invokevirtual 286, 3) := by decide +kernel
theorem dX7_best_77 : decode cX7_best 77 = .ok (.aload_n 0, 1) := by decide +kernel
theorem dX7_best_78 : decode cX7_best 78 = .ok (.iload_n 2, 1) := by decide +kernel
theorem dX7_best_79 : decode cX7_best 79 = .ok (.aload_n 0, 1) := by decide +kernel
theorem dX7_best_80 : decode cX7_best 80 = .ok (.getfield 151, 3) := by decide +kernel
theorem dX7_best_83 : decode cX7_best 83 = .ok (.invokevirtual 277, 3) := by decide +kernel
theorem dX7_best_86 : decode cX7_best 86 = .ok (.pop, 1) := by decide +kernel
theorem dX7_best_87 : decode cX7_best 87 = .ok (.iconst 0, 1) := by decide +kernel
theorem dX7_best_88 : decode cX7_best 88 = .ok (.istore_n 3, 1) := by decide +kernel
theorem dX7_best_89 : decode cX7_best 89 = .ok (.iload_n 3, 1) := by decide +kernel
theorem dX7_best_90 : decode cX7_best 90 = .ok (.aload_n 0, 1) := by decide +kernel
theorem dX7_best_91 : decode cX7_best 91 = .ok (.getfield 151, 3) := by decide +kernel
theorem dX7_best_94 : decode cX7_best 94 = .ok (.if_icmp .ge 33, 3) := by decide +kernel
theorem dX7_best_97 : decode cX7_best 97 = .ok (.aload_n 0, 1) := by decide +kernel
theorem dX7_best_98 : decode cX7_best 98 = .ok (.getfield 34, 3) := by decide +kernel
theorem dX7_best_101 : decode cX7_best 101 = .ok (.iload_n 3, 1) := by decide +kernel
theorem dX7_best_102 : decode cX7_best 102 = .ok (.aload_n 0, 1) := by decide +kernel
theorem dX7_best_103 : decode cX7_best 103 = .ok (.getfield 70, 3) := by decide +kernel
theorem dX7_best_106 : decode cX7_best 106 = .ok (.iload_n 3, 1) := by decide +kernel
theorem dX7_best_107 : decode cX7_best 107 = .ok (.iaload, 1) := by decide +kernel
theorem dX7_best_108 : decode cX7_best 108 = .ok (.iastore, 1) := by decide +kernel
theorem dX7_best_109 : decode cX7_best 109 = .ok (.aload_n 0, 1) := by decide +kernel
theorem dX7_best_110 : decode cX7_best 110 = .ok (.iload_n 2, 1) := by decide +kernel
theorem dX7_best_111 : decode cX7_best 111 = .ok (.iload_n 3, 1) := by decide +kernel
theorem dX7_best_112 : decode cX7_best 112 = .ok (.aload_n 0, 1) := by decide +kernel
theorem dX7_best_113 : decode cX7_best 113 = .ok (.getfield 67, 3) := by decide +kernel
theorem dX7_best_116 : decode cX7_best 116 = .ok (.iload_n 3, 1) := by decide +kernel
theorem dX7_best_117 : decode cX7_best 117 = .ok (.iaload, 1) := by decide +kernel
theorem dX7_best_118 : decode cX7_best 118 = .ok (.invokevirtual 98, 3) := by decide +kernel
theorem dX7_best_121 : decode cX7_best 121 = .ok (.iinc 3 1, 3) := by decide +kernel
theorem dX7_best_124 : decode cX7_best 124 = .ok (.goto (-35), 3) := by decide +kernel
theorem dX7_best_127 : decode cX7_best 127 = .ok (.aload_n 0, 1) := by decide +kernel
theorem dX7_best_128 : decode cX7_best 128 = .ok (.getfield 283, 3) := by decide +kernel
theorem dX7_best_131 : decode cX7_best 131 = .ok (.ireturn, 1) := by decide +kernel
theorem dX7_spot_0 : decode cX7_spot 0 = .ok (.aload_n 0, 1) := by decide +kernel
theorem dX7_spot_1 : decode cX7_spot 1 = .ok (.iload_n 1, 1) := by decide +kernel
theorem dX7_spot_2 : decode cX7_spot 2 = .ok (.invokevirtual 172, 3) := by decide +kernel
theorem dX7_spot_5 : decode cX7_spot 5 = .ok (.ifCond .eq 10, 3) := by decide +kernel
theorem dX7_spot_8 : decode cX7_spot 8 = .ok (.iload_n 2, 1) := by decide +kernel
theorem dX7_spot_9 : decode cX7_spot 9 = .ok (.invokestatic 289, 3) := by decide +kernel
theorem dX7_spot_12 : decode cX7_spot 12 = .ok (.ifCond .ne 5, 3) := by decide +kernel
theorem dX7_spot_15 : decode cX7_spot 15 = .ok (.iconst (-1), 1) := by decide +kernel
theorem dX7_spot_16 : decode cX7_spot 16 = .ok (.ireturn, 1) := by decide +kernel
theorem dX7_spot_17 : decode cX7_spot 17 = .ok (.aload_n 0, 1) := by decide +kernel
theorem dX7_spot_18 : decode cX7_spot 18 = .ok (.getfield 151, 3) := by decide +kernel
theorem dX7_spot_21 : decode cX7_spot 21 = .ok (.ifCond .ne 6, 3) := by decide +kernel
theorem dX7_spot_24 : decode cX7_spot 24 = .ok (.bipush (-4), 2) := by decide +kernel
theorem dX7_spot_26 : decode cX7_spot 26 = .ok (.ireturn, 1) := by decide +kernel
theorem dX7_spot_27 : decode cX7_spot 27 = .ok (.aload_n 0, 1) := by decide +kernel
theorem dX7_spot_28 : decode cX7_spot 28 = .ok (.getfield 40, 3) := by decide +kernel
theorem dX7_spot_31 : decode cX7_spot 31 = .ok (.iload_n 1, 1) := by decide +kernel
theorem dX7_spot_32 : decode cX7_spot 32 = .ok (.iaload, 1) := by decide +kernel
theorem dX7_spot_33 : decode cX7_spot 33 = .ok (.istore_n 3, 1) := by decide +kernel
theorem dX7_spot_34 : decode cX7_spot 34 = .ok (.iconst 0, 1) := by decide +kernel
theorem dX7_spot_35 : decode cX7_spot 35 = .ok (.istore 4, 2) := by decide +kernel
theorem dX7_spot_37 : decode cX7_spot 37 = .ok (.iconst (-1), 1) := by decide +kernel
theorem dX7_spot_38 : decode cX7_spot 38 = .ok (.istore 5, 2) := by decide +kernel
theorem dX7_spot_40 : decode cX7_spot 40 = .ok (.iconst 0, 1) := by decide +kernel
theorem dX7_spot_41 : decode cX7_spot 41 = .ok (.istore 6, 2) := by decide +kernel
theorem dX7_spot_43 : decode cX7_spot 43 = .ok (.iload 6, 2) := by decide +kernel
theorem dX7_spot_45 : decode cX7_spot 45 = .ok (.bipush 20, 2) := by decide +kernel
theorem dX7_spot_47 : decode cX7_spot 47 = .ok (.if_icmp .ge 98, 3) := by decide +kernel
theorem dX7_spot_50 : decode cX7_spot 50 = .ok (.aload_n 0, 1) := by decide +kernel
theorem dX7_spot_51 : decode cX7_spot 51 = .ok (.getfield 40, 3) := by decide +kernel
theorem dX7_spot_54 : decode cX7_spot 54 = .ok (.iload_n 1, 1) := by decide +kernel
theorem dX7_spot_55 : decode cX7_spot 55 = .ok (.iload 6, 2) := by decide +kernel
theorem dX7_spot_57 : decode cX7_spot 57 = .ok (.iastore, 1) := by decide +kernel
theorem dX7_spot_58 : decode cX7_spot 58 = .ok (.aload_n 0, 1) := by decide +kernel
theorem dX7_spot_59 : decode cX7_spot 59 = .ok (.invokevirtual 253, 3) := by decide +kernel
theorem dX7_spot_62 : decode cX7_spot 62 = .ok (.iconst 0, 1) := by decide +kernel
theorem dX7_spot_63 : decode cX7_spot 63 = .ok (.istore 7, 2) := by decide +kernel
theorem dX7_spot_65 : decode cX7_spot 65 = .ok (.iload 7, 2) := by decide +kernel
theorem dX7_spot_67 : decode cX7_spot 67 = .ok (.iload_n 2, 1) := by decide +kernel
theorem dX7_spot_68 : decode cX7_spot 68 = .ok (.if_icmp .ge 16, 3) := by decide +kernel
theorem dX7_spot_71 : decode cX7_spot 71 = .ok (.aload_n 0, 1) := by decide +kernel
theorem dX7_spot_72 : decode cX7_spot 72 = .ok (.iconst 0, 1) := by decide +kernel
theorem dX7_spot_73 : decode cX7_spot 73 = .ok (.bipush (-9), 2) := by decide +kernel
theorem dX7_spot_75 : decode cX7_spot 75 = .ok (.invokevirtual 241, 3) := by decide +kernel
theorem dX7_spot_78 : decode cX7_spot 78 = .ok (.iinc 7 1, 3) := by decide +kernel
theorem dX7_spot_81 : decode cX7_spot 81 = .ok (.goto (-16), 3) := by decide +kernel
theorem dX7_spot_84 : decode cX7_spot 84 = .ok (.aload_n 0, 1) := by decide +kernel
theorem dX7_spot_85 : decode cX7_spot 85 = .ok (.getfield 49, 3) := by decide +kernel
theorem dX7_spot_88 : decode cX7_spot 88 = .ok (.iload_n 1, 1) := by decide +kernel
theorem dX7_spot_89 : decode cX7_spot 89 = .ok (.iaload, 1) := by decide +kernel
theorem dX7_spot_90 : decode cX7_spot 90 = .ok (.istore 7, 2) := by decide +kernel
theorem dX7_spot_92 : decode cX7_spot 92 = .ok (.aload_n 0, 1) := by decide +kernel
theorem dX7_spot_93 : decode cX7_spot 93 = .ok (.invokevirtual 256, 3) := by decide +kernel
theorem dX7_spot_96 : decode cX7_spot 96 = .ok (.iload 7, 2) := by decide +kernel
theorem dX7_spot_98 : decode cX7_spot 98 = .ok (.aload_n 0, 1) := by decide +kernel
theorem dX7_spot_99 : decode cX7_spot 99 = .ok (.getfield 49, 3) := by decide +kernel
theorem dX7_spot_102 : decode cX7_spot 102 = .ok (.iload_n 1, 1) := by decide +kernel
theorem dX7_spot_103 : decode cX7_spot 103 = .ok (.iaload, 1) := by decide +kernel
theorem dX7_spot_104 : decode cX7_spot 104 = .ok (.isub, 1) := by decide +kernel
theorem dX7_spot_105 : decode cX7_spot 105 = .ok (.istore 7, 2) := by decide +kernel
theorem dX7_spot_107 : decode cX7_spot 107 = .ok (.iload 7, 2) := by decide +kernel
theorem dX7_spot_109 : decode cX7_spot 109 = .ok (.iload 5, 2) := by decide +kernel
theorem dX7_spot_111 : decode cX7_spot 111 = .ok (.if_icmp .le 8, 3) := by decide +kernel
theorem dX7_spot_114 : decode cX7_spot 114 = .ok (.iload 6, 2) := by decide +kernel
theorem dX7_spot_116 : decode cX7_spot 116 = .ok (.goto 5, 3) := by decide +kernel
theorem dX7_spot_119 : decode cX7_spot 119 = .ok (.iload 4, 2) := by decide +kernel
theorem dX7_spot_121 : decode cX7_spot 121 = .ok (.istore 4, 2) := by decide +kernel
theorem dX7_spot_123 : decode cX7_spot 123 = .ok (.iload 7, 2) := by decide +kernel
theorem dX7_spot_125 : decode cX7_spot 125 = .ok (.iload 5, 2) := by decide +kernel
theorem dX7_spot_127 : decode cX7_spot 127 = .ok (.if_icmp .le 8, 3) := by decide +kernel
theorem dX7_spot_130 : decode cX7_spot 130 = .ok (.iload 7, 2) := by decide +kernel
theorem dX7_spot_132 : decode cX7_spot 132 = .ok (.goto 5, 3) := by decide +kernel
theorem dX7_spot_135 : decode cX7_spot 135 = .ok (.iload 5, 2) := by decide +kernel
theorem dX7_spot_137 : decode cX7_spot 137 = .ok (.istore 5, 2) := by decide +kernel
theorem dX7_spot_139 : decode cX7_spot 139 = .ok (.iinc 6 1, 3) := by decide +kernel
theorem dX7_spot_142 : decode cX7_spot 142 = .ok (.goto (-99), 3) := by decide +kernel
theorem dX7_spot_145 : decode cX7_spot 145 = .ok (.aload_n 0, 1) := by decide +kernel
theorem dX7_spot_146 : decode cX7_spot 146 = .ok (.getfield 40, 3) := by decide +kernel
theorem dX7_spot_149 : decode cX7_spot 149 = .ok (.iload_n 1, 1) := by decide +kernel
theorem dX7_spot_150 : decode cX7_spot 150 = .ok (.iload_n 3, 1) := by decide +kernel
theorem dX7_spot_151 : decode cX7_spot 151 = .ok (.iastore, 1) := by decide +kernel
theorem dX7_spot_152 : decode cX7_spot 152 = .ok (.aload_n 0, 1) := by decide +kernel
theorem dX7_spot_153 : decode cX7_spot 153 = .ok (.iload 5, 2) := by decide +kernel
theorem dX7_spot_155 : decode cX7_spot 155 = .ok (.iload 4, 2) := by decide +kernel
theorem dX7_spot_157 : decode cX7_spot 157 = .ok (.invokevirtual 109, 3) := by decide +kernel
theorem dX7_spot_160 : decode cX7_spot 160 = .ok (.ireturn, 1) := by decide +kernel
theorem dX7_missed_0 : decode cX7_missed 0 = .ok (.iload_n 1, 1) := by decide +kernel
theorem dX7_missed_1 : decode cX7_missed 1 = .ok (.invokestatic 289, 3) := by decide +kernel
theorem dX7_missed_4 : decode cX7_missed 4 = .ok (.ifCond .ne 5, 3) := by decide +kernel
theorem dX7_missed_7 : decode cX7_missed 7 = .ok (.iconst (-1), 1) := by decide +kernel
theorem dX7_missed_8 : decode cX7_missed 8 = .ok (.ireturn, 1) := by decide +kernel
theorem dX7_missed_9 : decode cX7_missed 9 = .ok (.aload_n 0, 1) := by decide +kernel
theorem dX7_missed_10 : decode cX7_missed 10 = .ok (.getfield 151, 3) := by decide +kernel
theorem dX7_missed_13 : decode cX7_missed 13 = .ok (.ifCond .ne 6, 3) := by decide +kernel
theorem dX7_missed_16 : decode cX7_missed 16 = .ok (.bipush (-4), 2) := by decide +kernel
theorem dX7_missed_18 : decode cX7_missed 18 = .ok (.ireturn, 1) := by decide +kernel
theorem dX7_missed_19 : decode cX7_missed 19 = .ok (.aload_n 0, 1) := by decide +kernel
theorem dX7_missed_20 : decode cX7_missed 20 = .ok (.iload_n 1, 1) := by decide +kernel
theorem dX7_missed_21 : decode cX7_missed 21 = .ok (.invokevirtual 265, 3) := by decide +kernel
theorem dX7_missed_24 : decode cX7_missed 24 = .ok (.aload_n 0, 1) := by decide +kernel
theorem dX7_missed_25 : decode cX7_missed 25 = .ok (.getfield 259, 3) := by decide +kernel
theorem dX7_missed_28 : decode cX7_missed 28 = .ok (.istore_n 2, 1) := by decide +kernel
theorem dX7_missed_29 : decode cX7_missed 29 = .ok (.bipush (-9), 2) := by decide +kernel
theorem dX7_missed_31 : decode cX7_missed 31 = .ok (.istore_n 3, 1) := by decide +kernel
theorem dX7_missed_32 : decode cX7_missed 32 = .ok (.iconst 0, 1) := by decide +kernel
theorem dX7_missed_33 : decode cX7_missed 33 = .ok (.istore 4, 2) := by decide +kernel
theorem dX7_missed_35 : decode cX7_missed 35 = .ok (.iconst 0, 1) := by decide +kernel
theorem dX7_missed_36 : decode cX7_missed 36 = .ok (.istore 5, 2) := by decide +kernel
theorem dX7_missed_38 : decode cX7_missed 38 = .ok (.iload 5, 2) := by decide +kernel
theorem dX7_missed_40 : decode cX7_missed 40 = .ok (.aload_n 0, 1) := by decide +kernel
theorem dX7_missed_41 : decode cX7_missed 41 = .ok (.getfield 151, 3) := by decide +kernel
theorem dX7_missed_44 : decode cX7_missed 44 = .ok (.if_icmp .ge 107, 3) := by decide +kernel
theorem dX7_missed_47 : decode cX7_missed 47 = .ok (.aload_n 0, 1) := by decide +kernel
theorem dX7_missed_48 : decode cX7_missed 48 = .ok (.getfield 34, 3) := by decide +kernel
theorem dX7_missed_51 : decode cX7_missed 51 = .ok (.iload 5, 2) := by decide +kernel
theorem dX7_missed_53 : decode cX7_missed 53 = .ok (.iaload, 1) := by decide +kernel
theorem dX7_missed_54 : decode cX7_missed 54 = .ok (.istore 6, 2) := by decide +kernel
theorem dX7_missed_56 : decode cX7_missed 56 = .ok (.aload_n 0, 1) := by decide +kernel
theorem dX7_missed_57 : decode cX7_missed 57 = .ok (.getfield 34, 3) := by decide +kernel
theorem dX7_missed_60 : decode cX7_missed 60 = .ok (.iload 5, 2) := by decide +kernel
theorem dX7_missed_62 : decode cX7_missed 62 = .ok (.iconst 4, 1) := by decide +kernel
theorem dX7_missed_63 : decode cX7_missed 63 = .ok (.iastore, 1) := by decide +kernel
theorem dX7_missed_64 : decode cX7_missed 64 = .ok (.aload_n 0, 1) := by decide +kernel
theorem dX7_missed_65 : decode cX7_missed 65 = .ok (.iload_n 1, 1) := by decide +kernel
theorem dX7_missed_66 : decode cX7_missed 66 = .ok (.invokevirtual 265, 3) := by decide +kernel
theorem dX7_missed_69 : decode cX7_missed 69 = .ok (.aload_n 0, 1) := by decide +kernel
theorem dX7_missed_70 : decode cX7_missed 70 = .ok (.getfield 34, 3) := by decide +kernel
theorem dX7_missed_73 : decode cX7_missed 73 = .ok (.iload 5, 2) := by decide +kernel
theorem dX7_missed_75 : decode cX7_missed 75 = .ok (.iload 6, 2) := by decide +kernel
theorem dX7_missed_77 : decode cX7_missed 77 = .ok (.iastore, 1) := by decide +kernel
theorem dX7_missed_78 : decode cX7_missed 78 = .ok (.iload_n 2, 1) := by decide +kernel
theorem dX7_missed_79 : decode cX7_missed 79 = .ok (.iconst 1, 1) := by decide +kernel
theorem dX7_missed_80 : decode cX7_missed 80 = .ok (.iload 5, 2) := by decide +kernel
theorem dX7_missed_82 : decode cX7_missed 82 = .ok (.ishl, 1) := by decide +kernel
theorem dX7_missed_83 : decode cX7_missed 83 = .ok (.iconst (-1), 1) := by decide +kernel
theorem dX7_missed_84 : decode cX7_missed 84 = .ok (.ixor, 1) := by decide +kernel
theorem dX7_missed_85 : decode cX7_missed 85 = .ok (.iand, 1) := by decide +kernel
theorem dX7_missed_86 : decode cX7_missed 86 = .ok (.invokestatic 192, 3) := by decide +kernel
theorem dX7_missed_89 : decode cX7_missed 89 = .ok (.aload_n 0, 1) := by decide +kernel
theorem dX7_missed_90 : decode cX7_missed 90 = .ok (.getfield 259, 3) := by decide +kernel
theorem dX7_missed_93 : decode cX7_missed 93 = .ok (.invokestatic 192, 3) := by decide +kernel
theorem dX7_missed_96 : decode cX7_missed 96 = .ok (.isub, 1) := by decide +kernel
theorem dX7_missed_97 : decode cX7_missed 97 = .ok (.istore 7, 2) := by decide +kernel
theorem dX7_missed_99 : decode cX7_missed 99 = .ok (.iload_n 3, 1) := by decide +kernel
theorem dX7_missed_100 : decode cX7_missed 100 = .ok (.bipush (-9), 2) := by decide +kernel
theorem dX7_missed_102 : decode cX7_missed 102 = .ok (.if_icmp .eq 10, 3) := by decide +kernel
theorem dX7_missed_105 : decode cX7_missed 105 = .ok (.iload 7, 2) := by decide +kernel
theorem dX7_missed_107 : decode cX7_missed 107 = .ok (.iload 4, 2) := by decide +kernel
theorem dX7_missed_109 : decode cX7_missed 109 = .ok (.if_icmp .ge 7, 3) := by decide +kernel
theorem dX7_missed_112 : decode cX7_missed 112 = .ok (.iconst 1, 1) := by decide +kernel
theorem dX7_missed_113 : decode cX7_missed 113 = .ok (.goto 4, 3) := by decide +kernel
theorem dX7_missed_116 : decode cX7_missed 116 = .ok (.iconst 0, 1) := by decide +kernel
theorem dX7_missed_117 : decode cX7_missed 117 = .ok (.istore 8, 2) := by decide +kernel
theorem dX7_missed_119 : decode cX7_missed 119 = .ok (.iload 8, 2) := by decide +kernel
theorem dX7_missed_121 : decode cX7_missed 121 = .ok (.ifCond .eq 8, 3) := by decide +kernel
theorem dX7_missed_124 : decode cX7_missed 124 = .ok (.iload 5, 2) := by decide +kernel
theorem dX7_missed_126 : decode cX7_missed 126 = .ok (.goto 4, 3) := by decide +kernel
theorem dX7_missed_129 : decode cX7_missed 129 = .ok (.iload_n 3, 1) := by decide +kernel
theorem dX7_missed_130 : decode cX7_missed 130 = .ok (.istore_n 3, 1) := by decide +kernel
theorem dX7_missed_131 : decode cX7_missed 131 = .ok (.iload 8, 2) := by decide +kernel
theorem dX7_missed_133 : decode cX7_missed 133 = .ok (.ifCond .eq 8, 3) := by decide +kernel
theorem dX7_missed_136 : decode cX7_missed 136 = .ok (.iload 7, 2) := by decide +kernel
theorem dX7_missed_138 : decode cX7_missed 138 = .ok (.goto 5, 3) := by decide +kernel
theorem dX7_missed_141 : decode cX7_missed 141 = .ok (.iload 4, 2) := by decide +kernel
theorem dX7_missed_143 : decode cX7_missed 143 = .ok (.istore 4, 2) := by decide +kernel
theorem dX7_missed_145 : decode cX7_missed 145 = .ok (.iinc 5 1, 3) := by decide +kernel
theorem dX7_missed_148 : decode cX7_missed 148 = .ok (.goto (-110), 3) := by decide +kernel
theorem dX7_missed_151 : decode cX7_missed 151 = .ok (.aload_n 0, 1) := by decide +kernel
theorem dX7_missed_152 : decode cX7_missed 152 = .ok (.iload 4, 2) := by decide +kernel
theorem dX7_missed_154 : decode cX7_missed 154 = .ok (.iload_n 3, 1) := by decide +kernel
theorem dX7_missed_155 : decode cX7_missed 155 = .ok (.invokevirtual 109, 3) := by decide +kernel
theorem dX7_missed_158 : decode cX7_missed 158 = .ok (.ireturn, 1) := by decide +kernel
theorem dX7_holds_0 : decode cX7_holds 0 = .ok (.iconst 0, 1) := by decide +kernel
theorem dX7_holds_1 : decode cX7_holds 1 = .ok (.istore_n 2, 1) := by decide +kernel
theorem dX7_holds_2 : decode cX7_holds 2 = .ok (.iconst 1, 1) := by decide +kernel
theorem dX7_holds_3 : decode cX7_holds 3 = .ok (.istore_n 3, 1) := by decide +kernel
theorem dX7_holds_4 : decode cX7_holds 4 = .ok (.iload_n 3, 1) := by decide +kernel
theorem dX7_holds_5 : decode cX7_holds 5 = .ok (.aload_n 0, 1) := by decide +kernel
theorem dX7_holds_6 : decode cX7_holds 6 = .ok (.getfield 151, 3) := by decide +kernel
theorem dX7_holds_9 : decode cX7_holds 9 = .ok (.if_icmp .ge 61, 3) := by decide +kernel
theorem dX7_holds_12 : decode cX7_holds 12 = .ok (.iload_n 1, 1) := by decide +kernel
theorem dX7_holds_13 : decode cX7_holds 13 = .ok (.iload_n 3, 1) := by decide +kernel
theorem dX7_holds_14 : decode cX7_holds 14 = .ok (.invokestatic 207, 3) := by decide +kernel
theorem dX7_holds_17 : decode cX7_holds 17 = .ok (.ifCond .eq 47, 3) := by decide +kernel
theorem dX7_holds_20 : decode cX7_holds 20 = .ok (.aload_n 0, 1) := by decide +kernel
theorem dX7_holds_21 : decode cX7_holds 21 = .ok (.getfield 31, 3) := by decide +kernel
theorem dX7_holds_24 : decode cX7_holds 24 = .ok (.iload_n 3, 1) := by decide +kernel
theorem dX7_holds_25 : decode cX7_holds 25 = .ok (.iaload, 1) := by decide +kernel
theorem dX7_holds_26 : decode cX7_holds 26 = .ok (.aload_n 0, 1) := by decide +kernel
theorem dX7_holds_27 : decode cX7_holds 27 = .ok (.getfield 31, 3) := by decide +kernel
theorem dX7_holds_30 : decode cX7_holds 30 = .ok (.iload_n 2, 1) := by decide +kernel
theorem dX7_holds_31 : decode cX7_holds 31 = .ok (.iaload, 1) := by decide +kernel
theorem dX7_holds_32 : decode cX7_holds 32 = .ok (.isub, 1) := by decide +kernel
theorem dX7_holds_33 : decode cX7_holds 33 = .ok (.aload_n 0, 1) := by decide +kernel
theorem dX7_holds_34 : decode cX7_holds 34 = .ok (.getfield 157, 3) := by decide +kernel
theorem dX7_holds_37 : decode cX7_holds 37 = .ok (.if_icmp .le 25, 3) := by decide +kernel
theorem dX7_holds_40 : decode cX7_holds 40 = .ok (.aload_n 0, 1) := by decide +kernel
theorem dX7_holds_41 : decode cX7_holds 41 = .ok (.getfield 28, 3) := by decide +kernel
theorem dX7_holds_44 : decode cX7_holds 44 = .ok (.iload_n 3, 1) := by decide +kernel
theorem dX7_holds_45 : decode cX7_holds 45 = .ok (.iaload, 1) := by decide +kernel
theorem dX7_holds_46 : decode cX7_holds 46 = .ok (.iconst 4, 1) := by decide +kernel
theorem dX7_holds_47 : decode cX7_holds 47 = .ok (.if_icmp .eq 15, 3) := by decide +kernel
theorem dX7_holds_50 : decode cX7_holds 50 = .ok (.aload_n 0, 1) := by decide +kernel
theorem dX7_holds_51 : decode cX7_holds 51 = .ok (.getfield 28, 3) := by decide +kernel
theorem dX7_holds_54 : decode cX7_holds 54 = .ok (.iload_n 2, 1) := by decide +kernel
theorem dX7_holds_55 : decode cX7_holds 55 = .ok (.iaload, 1) := by decide +kernel
theorem dX7_holds_56 : decode cX7_holds 56 = .ok (.iconst 4, 1) := by decide +kernel
theorem dX7_holds_57 : decode cX7_holds 57 = .ok (.if_icmp .eq 5, 3) := by decide +kernel
theorem dX7_holds_60 : decode cX7_holds 60 = .ok (.iconst 0, 1) := by decide +kernel
theorem dX7_holds_61 : decode cX7_holds 61 = .ok (.ireturn, 1) := by decide +kernel
theorem dX7_holds_62 : decode cX7_holds 62 = .ok (.iload_n 3, 1) := by decide +kernel
theorem dX7_holds_63 : decode cX7_holds 63 = .ok (.istore_n 2, 1) := by decide +kernel
theorem dX7_holds_64 : decode cX7_holds 64 = .ok (.iinc 3 1, 3) := by decide +kernel
theorem dX7_holds_67 : decode cX7_holds 67 = .ok (.goto (-63), 3) := by decide +kernel
theorem dX7_holds_70 : decode cX7_holds 70 = .ok (.iconst 1, 1) := by decide +kernel
theorem dX7_holds_71 : decode cX7_holds 71 = .ok (.ireturn, 1) := by decide +kernel
theorem dX7_fewest_0 : decode cX7_fewest 0 = .ok (.aload_n 0, 1) := by decide +kernel
theorem dX7_fewest_1 : decode cX7_fewest 1 = .ok (.getfield 151, 3) := by decide +kernel
theorem dX7_fewest_4 : decode cX7_fewest 4 = .ok (.ifCond .ne 6, 3) := by decide +kernel
theorem dX7_fewest_7 : decode cX7_fewest 7 = .ok (.bipush (-4), 2) := by decide +kernel
theorem dX7_fewest_9 : decode cX7_fewest 9 = .ok (.ireturn, 1) := by decide +kernel
theorem dX7_fewest_10 : decode cX7_fewest 10 = .ok (.iconst 1, 1) := by decide +kernel
theorem dX7_fewest_11 : decode cX7_fewest 11 = .ok (.iconst 1, 1) := by decide +kernel
theorem dX7_fewest_12 : decode cX7_fewest 12 = .ok (.aload_n 0, 1) := by decide +kernel
theorem dX7_fewest_13 : decode cX7_fewest 13 = .ok (.getfield 151, 3) := by decide +kernel
theorem dX7_fewest_16 : decode cX7_fewest 16 = .ok (.iconst 1, 1) := by decide +kernel
theorem dX7_fewest_17 : decode cX7_fewest 17 = .ok (.isub, 1) := by decide +kernel
theorem dX7_fewest_18 : decode cX7_fewest 18 = .ok (.ishl, 1) := by decide +kernel
theorem dX7_fewest_19 : decode cX7_fewest 19 = .ok (.ior, 1) := by decide +kernel
theorem dX7_fewest_20 : decode cX7_fewest 20 = .ok (.istore_n 1, 1) := by decide +kernel
theorem dX7_fewest_21 : decode cX7_fewest 21 = .ok (.iconst 1, 1) := by decide +kernel
theorem dX7_fewest_22 : decode cX7_fewest 22 = .ok (.aload_n 0, 1) := by decide +kernel
theorem dX7_fewest_23 : decode cX7_fewest 23 = .ok (.getfield 151, 3) := by decide +kernel
theorem dX7_fewest_26 : decode cX7_fewest 26 = .ok (.ishl, 1) := by decide +kernel
theorem dX7_fewest_27 : decode cX7_fewest 27 = .ok (.iconst 1, 1) := by decide +kernel
theorem dX7_fewest_28 : decode cX7_fewest 28 = .ok (.isub, 1) := by decide +kernel
theorem dX7_fewest_29 : decode cX7_fewest 29 = .ok (.istore_n 2, 1) := by decide +kernel
theorem dX7_fewest_30 : decode cX7_fewest 30 = .ok (.iload_n 2, 1) := by decide +kernel
theorem dX7_fewest_31 : decode cX7_fewest 31 = .ok (.istore_n 3, 1) := by decide +kernel
theorem dX7_fewest_32 : decode cX7_fewest 32 = .ok (.iload_n 3, 1) := by decide +kernel
theorem dX7_fewest_33 : decode cX7_fewest 33 = .ok (.ifCond .le 37, 3) := by decide +kernel
theorem dX7_fewest_36 : decode cX7_fewest 36 = .ok (.iload_n 3, 1) := by decide +kernel
theorem dX7_fewest_37 : decode cX7_fewest 37 = .ok (.iload_n 1, 1) := by decide +kernel
theorem dX7_fewest_38 : decode cX7_fewest 38 = .ok (.iand, 1) := by decide +kernel
theorem dX7_fewest_39 : decode cX7_fewest 39 = .ok (.iload_n 1, 1) := by decide +kernel
theorem dX7_fewest_40 : decode cX7_fewest 40 = .ok (.if_icmp .ne 24, 3) := by decide +kernel
theorem dX7_fewest_43 : decode cX7_fewest 43 = .ok (.iload_n 3, 1) := by decide +kernel
theorem dX7_fewest_44 : decode cX7_fewest 44 = .ok (.invokestatic 192, 3) := by decide +kernel
theorem dX7_fewest_47 : decode cX7_fewest 47 = .ok (.iload_n 2, 1) := by decide +kernel
theorem dX7_fewest_48 : decode cX7_fewest 48 = .ok (.invokestatic 192, 3) := by decide +kernel
theorem dX7_fewest_51 : decode cX7_fewest 51 = .ok (.if_icmp .gt 13, 3) := by decide +kernel
theorem dX7_fewest_54 : decode cX7_fewest 54 = .ok (.aload_n 0, 1) := by decide +kernel
theorem dX7_fewest_55 : decode cX7_fewest 55 = .ok (.iload_n 3, 1) := by decide +kernel
theorem dX7_fewest_56 : decode cX7_fewest 56 = .ok (.invokevirtual 292, 3) := by decide +kernel
theorem dX7_fewest_59 : decode cX7_fewest 59 = .ok (.ifCond .eq 5, 3) := by decide +kernel
theorem dX7_fewest_62 : decode cX7_fewest 62 = .ok (.iload_n 3, 1) := by decide +kernel
theorem dX7_fewest_63 : decode cX7_fewest 63 = .ok (.istore_n 2, 1) := by decide +kernel
theorem dX7_fewest_64 : decode cX7_fewest 64 = .ok (.iinc 3 (-1), 3) := by decide +kernel
theorem dX7_fewest_67 : decode cX7_fewest 67 = .ok (.goto (-35), 3) := by decide +kernel
theorem dX7_fewest_70 : decode cX7_fewest 70 = .ok (.aload_n 0, 1) := by decide +kernel
theorem dX7_fewest_71 : decode cX7_fewest 71 = .ok (.iload_n 2, 1) := by decide +kernel
theorem dX7_fewest_72 : decode cX7_fewest 72 = .ok (.iload_n 2, 1) := by decide +kernel
theorem dX7_fewest_73 : decode cX7_fewest 73 = .ok (.invokestatic 192, 3) := by decide +kernel
theorem dX7_fewest_76 : decode cX7_fewest 76 = .ok (.invokevirtual 109, 3) := by decide +kernel
theorem dX7_fewest_79 : decode cX7_fewest 79 = .ok (.ireturn, 1) := by decide +kernel
theorem dX7_turns_0 : decode cX7_turns 0 = .ok (.aload_n 0, 1) := by decide +kernel
theorem dX7_turns_1 : decode cX7_turns 1 = .ok (.getfield 151, 3) := by decide +kernel
theorem dX7_turns_4 : decode cX7_turns 4 = .ok (.ifCond .ne 6, 3) := by decide +kernel
theorem dX7_turns_7 : decode cX7_turns 7 = .ok (.bipush (-4), 2) := by decide +kernel
theorem dX7_turns_9 : decode cX7_turns 9 = .ok (.ireturn, 1) := by decide +kernel
theorem dX7_turns_10 : decode cX7_turns 10 = .ok (.iconst 0, 1) := by decide +kernel
theorem dX7_turns_11 : decode cX7_turns 11 = .ok (.istore_n 1, 1) := by decide +kernel
theorem dX7_turns_12 : decode cX7_turns 12 = .ok (.aload_n 0, 1) := by decide +kernel
theorem dX7_turns_13 : decode cX7_turns 13 = .ok (.aload_n 0, 1) := by decide +kernel
theorem dX7_turns_14 : decode cX7_turns 14 = .ok (.invokevirtual 224, 3) := by decide +kernel
theorem dX7_turns_17 : decode cX7_turns 17 = .ok (.invokevirtual 247, 3) := by decide +kernel
theorem dX7_turns_20 : decode cX7_turns 20 = .ok (.invokestatic 192, 3) := by decide +kernel
theorem dX7_turns_23 : decode cX7_turns 23 = .ok (.istore_n 2, 1) := by decide +kernel
theorem dX7_turns_24 : decode cX7_turns 24 = .ok (.iconst 1, 1) := by decide +kernel
theorem dX7_turns_25 : decode cX7_turns 25 = .ok (.istore_n 3, 1) := by decide +kernel
theorem dX7_turns_26 : decode cX7_turns 26 = .ok (.iload_n 3, 1) := by decide +kernel
theorem dX7_turns_27 : decode cX7_turns 27 = .ok (.bipush 20, 2) := by decide +kernel
theorem dX7_turns_29 : decode cX7_turns 29 = .ok (.if_icmp .ge 117, 3) := by decide +kernel
theorem dX7_turns_32 : decode cX7_turns 32 = .ok (.aload_n 0, 1) := by decide +kernel
theorem dX7_turns_33 : decode cX7_turns 33 = .ok (.getfield 31, 3) := by decide +kernel
theorem dX7_turns_36 : decode cX7_turns 36 = .ok (.iconst 0, 1) := by decide +kernel
theorem dX7_turns_37 : decode cX7_turns 37 = .ok (.iaload, 1) := by decide +kernel
theorem dX7_turns_38 : decode cX7_turns 38 = .ok (.iload_n 3, 1) := by decide +kernel
theorem dX7_turns_39 : decode cX7_turns 39 = .ok (.isub, 1) := by decide +kernel
theorem dX7_turns_40 : decode cX7_turns 40 = .ok (.ifCond .lt 19, 3) := by decide +kernel
theorem dX7_turns_43 : decode cX7_turns 43 = .ok (.aload_n 0, 1) := by decide +kernel
theorem dX7_turns_44 : decode cX7_turns 44 = .ok (.aload_n 0, 1) := by decide +kernel
theorem dX7_turns_45 : decode cX7_turns 45 = .ok (.invokevirtual 224, 3) := by decide +kernel
theorem dX7_turns_48 : decode cX7_turns 48 = .ok (.iload_n 3, 1) := by decide +kernel
theorem dX7_turns_49 : decode cX7_turns 49 = .ok (.isub, 1) := by decide +kernel
theorem dX7_turns_50 : decode cX7_turns 50 = .ok (.invokevirtual 247, 3) := by decide +kernel
theorem dX7_turns_53 : decode cX7_turns 53 = .ok (.invokestatic 192, 3) := by decide +kernel
theorem dX7_turns_56 : decode cX7_turns 56 = .ok (.goto 4, 3) := by decide +kernel
theorem dX7_turns_59 : decode cX7_turns 59 = .ok (.iconst (-1), 1) := by decide +kernel
theorem dX7_turns_60 : decode cX7_turns 60 = .ok (.istore 4, 2) := by decide +kernel
theorem dX7_turns_62 : decode cX7_turns 62 = .ok (.aload_n 0, 1) := by decide +kernel
theorem dX7_turns_63 : decode cX7_turns 63 = .ok (.getfield 31, 3) := by decide +kernel
theorem dX7_turns_66 : decode cX7_turns 66 = .ok (.aload_n 0, 1) := by decide +kernel
theorem dX7_turns_67 : decode cX7_turns 67 = .ok (.getfield 151, 3) := by decide +kernel
theorem dX7_turns_70 : decode cX7_turns 70 = .ok (.iconst 1, 1) := by decide +kernel
theorem dX7_turns_71 : decode cX7_turns 71 = .ok (.isub, 1) := by decide +kernel
theorem dX7_turns_72 : decode cX7_turns 72 = .ok (.iaload, 1) := by decide +kernel
theorem dX7_turns_73 : decode cX7_turns 73 = .ok (.iload_n 3, 1) := by decide +kernel
theorem dX7_turns_74 : decode cX7_turns 74 = .ok (.iadd, 1) := by decide +kernel
theorem dX7_turns_75 : decode cX7_turns 75 = .ok (.bipush 20, 2) := by decide +kernel
theorem dX7_turns_77 : decode cX7_turns 77 = .ok (.if_icmp .ge 19, 3) := by decide +kernel
theorem dX7_turns_80 : decode cX7_turns 80 = .ok (.aload_n 0, 1) := by decide +kernel
theorem dX7_turns_81 : decode cX7_turns 81 = .ok (.aload_n 0, 1) := by decide +kernel
theorem dX7_turns_82 : decode cX7_turns 82 = .ok (.invokevirtual 224, 3) := by decide +kernel
theorem dX7_turns_85 : decode cX7_turns 85 = .ok (.iload_n 3, 1) := by decide +kernel
theorem dX7_turns_86 : decode cX7_turns 86 = .ok (.iadd, 1) := by decide +kernel
theorem dX7_turns_87 : decode cX7_turns 87 = .ok (.invokevirtual 247, 3) := by decide +kernel
theorem dX7_turns_90 : decode cX7_turns 90 = .ok (.invokestatic 192, 3) := by decide +kernel
theorem dX7_turns_93 : decode cX7_turns 93 = .ok (.goto 4, 3) := by decide +kernel
theorem dX7_turns_96 : decode cX7_turns 96 = .ok (.iconst (-1), 1) := by decide +kernel
theorem dX7_turns_97 : decode cX7_turns 97 = .ok (.istore 5, 2) := by decide +kernel
theorem dX7_turns_99 : decode cX7_turns 99 = .ok (.iload 4, 2) := by decide +kernel
theorem dX7_turns_101 : decode cX7_turns 101 = .ok (.iload 5, 2) := by decide +kernel
theorem dX7_turns_103 : decode cX7_turns 103 = .ok (.if_icmp .le 8, 3) := by decide +kernel
theorem dX7_turns_106 : decode cX7_turns 106 = .ok (.iload 4, 2) := by decide +kernel
theorem dX7_turns_108 : decode cX7_turns 108 = .ok (.goto 5, 3) := by decide +kernel
theorem dX7_turns_111 : decode cX7_turns 111 = .ok (.iload 5, 2) := by decide +kernel
theorem dX7_turns_113 : decode cX7_turns 113 = .ok (.istore 6, 2) := by decide +kernel
theorem dX7_turns_115 : decode cX7_turns 115 = .ok (.iload 6, 2) := by decide +kernel
theorem dX7_turns_117 : decode cX7_turns 117 = .ok (.iload_n 2, 1) := by decide +kernel
theorem dX7_turns_118 : decode cX7_turns 118 = .ok (.if_icmp .le 7, 3) := by decide +kernel
theorem dX7_turns_121 : decode cX7_turns 121 = .ok (.iload_n 3, 1) := by decide +kernel
theorem dX7_turns_122 : decode cX7_turns 122 = .ok (.goto 4, 3) := by decide +kernel
theorem dX7_turns_125 : decode cX7_turns 125 = .ok (.iload_n 1, 1) := by decide +kernel
theorem dX7_turns_126 : decode cX7_turns 126 = .ok (.istore_n 1, 1) := by decide +kernel
theorem dX7_turns_127 : decode cX7_turns 127 = .ok (.iload 6, 2) := by decide +kernel
theorem dX7_turns_129 : decode cX7_turns 129 = .ok (.iload_n 2, 1) := by decide +kernel
theorem dX7_turns_130 : decode cX7_turns 130 = .ok (.if_icmp .le 8, 3) := by decide +kernel
theorem dX7_turns_133 : decode cX7_turns 133 = .ok (.iload 6, 2) := by decide +kernel
theorem dX7_turns_135 : decode cX7_turns 135 = .ok (.goto 4, 3) := by decide +kernel
theorem dX7_turns_138 : decode cX7_turns 138 = .ok (.iload_n 2, 1) := by decide +kernel
theorem dX7_turns_139 : decode cX7_turns 139 = .ok (.istore_n 2, 1) := by decide +kernel
theorem dX7_turns_140 : decode cX7_turns 140 = .ok (.iinc 3 1, 3) := by decide +kernel
theorem dX7_turns_143 : decode cX7_turns 143 = .ok (.goto (-117), 3) := by decide +kernel
theorem dX7_turns_146 : decode cX7_turns 146 = .ok (.aload_n 0, 1) := by decide +kernel
theorem dX7_turns_147 : decode cX7_turns 147 = .ok (.iload_n 2, 1) := by decide +kernel
theorem dX7_turns_148 : decode cX7_turns 148 = .ok (.iload_n 1, 1) := by decide +kernel
theorem dX7_turns_149 : decode cX7_turns 149 = .ok (.invokevirtual 109, 3) := by decide +kernel
theorem dX7_turns_152 : decode cX7_turns 152 = .ok (.ireturn, 1) := by decide +kernel
theorem dX7_askedTrack_0 : decode cX7_askedTrack 0 = .ok (.iload_n 1, 1) := by decide +kernel
theorem dX7_askedTrack_1 : decode cX7_askedTrack 1 = .ok (.iconst 0, 1) := by decide +kernel
theorem dX7_askedTrack_2 : decode cX7_askedTrack 2 = .ok (.iconst 1, 1) := by decide +kernel
theorem dX7_askedTrack_3 : decode cX7_askedTrack 3 = .ok (.aload_n 0, 1) := by decide +kernel
theorem dX7_askedTrack_4 : decode cX7_askedTrack 4 = .ok (.getfield 151, 3) := by decide +kernel
theorem dX7_askedTrack_7 : decode cX7_askedTrack 7 = .ok (.ishl, 1) := by decide +kernel
theorem dX7_askedTrack_8 : decode cX7_askedTrack 8 = .ok (.iconst 1, 1) := by decide +kernel
theorem dX7_askedTrack_9 : decode cX7_askedTrack 9 = .ok (.isub, 1) := by decide +kernel
theorem dX7_askedTrack_10 : decode cX7_askedTrack 10 = .ok (.invokestatic 83, 3) := by decide +kernel
theorem dX7_askedTrack_13 : decode cX7_askedTrack 13 = .ok (.ifCond .eq 17, 3) := by decide +kernel
theorem dX7_askedTrack_16 : decode cX7_askedTrack 16 = .ok (.iload_n 2, 1) := by decide +kernel
theorem dX7_askedTrack_17 : decode cX7_askedTrack 17 = .ok (.invokestatic 289, 3) := by decide +kernel
theorem dX7_askedTrack_20 : decode cX7_askedTrack 20 = .ok (.ifCond .eq 10, 3) := by decide +kernel
theorem dX7_askedTrack_23 : decode cX7_askedTrack 23 = .ok (.iload_n 3, 1) := by decide +kernel
theorem dX7_askedTrack_24 : decode cX7_askedTrack 24 = .ok (.invokestatic 87, 3) := by decide +kernel
theorem dX7_askedTrack_27 : decode cX7_askedTrack 27 = .ok (.ifCond .ne 5, 3) := by decide +kernel
theorem dX7_askedTrack_30 : decode cX7_askedTrack 30 = .ok (.iconst (-1), 1) := by decide +kernel
theorem dX7_askedTrack_31 : decode cX7_askedTrack 31 = .ok (.ireturn, 1) := by decide +kernel
theorem dX7_askedTrack_32 : decode cX7_askedTrack 32 = .ok (.aload_n 0, 1) := by decide +kernel
theorem dX7_askedTrack_33 : decode cX7_askedTrack 33 = .ok (.getfield 151, 3) := by decide +kernel
theorem dX7_askedTrack_36 : decode cX7_askedTrack 36 = .ok (.ifCond .ne 6, 3) := by decide +kernel
theorem dX7_askedTrack_39 : decode cX7_askedTrack 39 = .ok (.bipush (-4), 2) := by decide +kernel
theorem dX7_askedTrack_41 : decode cX7_askedTrack 41 = .ok (.ireturn, 1) := by decide +kernel
theorem dX7_askedTrack_42 : decode cX7_askedTrack 42 = .ok (.iload_n 1, 1) := by decide +kernel
theorem dX7_askedTrack_43 : decode cX7_askedTrack 43 = .ok (.invokestatic 192, 3) := by decide +kernel
theorem dX7_askedTrack_46 : decode cX7_askedTrack 46 = .ok (.iconst 5, 1) := by decide +kernel
theorem dX7_askedTrack_47 : decode cX7_askedTrack 47 = .ok (.if_icmp .le 6, 3) := by decide +kernel
theorem dX7_askedTrack_50 : decode cX7_askedTrack 50 = .ok (.bipush (-6), 2) := by decide +kernel
theorem dX7_askedTrack_52 : decode cX7_askedTrack 52 = .ok (.ireturn, 1) := by decide +kernel
theorem dX7_askedTrack_53 : decode cX7_askedTrack 53 = .ok (.aload_n 0, 1) := by decide +kernel
theorem dX7_askedTrack_54 : decode cX7_askedTrack 54 = .ok (.iload_n 3, 1) := by decide +kernel
theorem dX7_askedTrack_55 : decode cX7_askedTrack 55 = .ok (.invokevirtual 102, 3) := by decide +kernel
theorem dX7_askedTrack_58 : decode cX7_askedTrack 58 = .ok (.istore 4, 2) := by decide +kernel
theorem dX7_askedTrack_60 : decode cX7_askedTrack 60 = .ok (.iload 4, 2) := by decide +kernel
theorem dX7_askedTrack_62 : decode cX7_askedTrack 62 = .ok (.ifCond .ge 6, 3) := by decide +kernel
theorem dX7_askedTrack_65 : decode cX7_askedTrack 65 = .ok (.iload 4, 2) := by decide +kernel
theorem dX7_askedTrack_67 : decode cX7_askedTrack 67 = .ok (.ireturn, 1) := by decide +kernel
theorem dX7_askedTrack_68 : decode cX7_askedTrack 68 = .ok (.aload_n 0, 1) := by decide +kernel
theorem dX7_askedTrack_69 : decode cX7_askedTrack 69 = .ok (.getfield 13, 3) := by decide +kernel
theorem dX7_askedTrack_72 : decode cX7_askedTrack 72 = .ok (.iload_n 3, 1) := by decide +kernel
theorem dX7_askedTrack_73 : decode cX7_askedTrack 73 = .ok (.iaload, 1) := by decide +kernel
theorem dX7_askedTrack_74 : decode cX7_askedTrack 74 = .ok (.aload_n 0, 1) := by decide +kernel
theorem dX7_askedTrack_75 : decode cX7_askedTrack 75 = .ok (.getfield 151, 3) := by decide +kernel
theorem dX7_askedTrack_78 : decode cX7_askedTrack 78 = .ok (.if_icmp .eq 9, 3) := by decide +kernel
theorem dX7_askedTrack_81 : decode cX7_askedTrack 81 = .ok (.aload_n 0, 1) := by decide +kernel
theorem dX7_askedTrack_82 : decode cX7_askedTrack 82 = .ok (.iconst 5, 1) := by decide +kernel
theorem dX7_askedTrack_83 : decode cX7_askedTrack 83 = .ok (.invokevirtual 91, 3) := by decide +kernel
theorem dX7_askedTrack_86 : decode cX7_askedTrack 86 = .ok (.ireturn, 1) := by decide +kernel
theorem dX7_askedTrack_87 : decode cX7_askedTrack 87 = .ok (.iconst 0, 1) := by decide +kernel
theorem dX7_askedTrack_88 : decode cX7_askedTrack 88 = .ok (.istore 5, 2) := by decide +kernel
theorem dX7_askedTrack_90 : decode cX7_askedTrack 90 = .ok (.iload 5, 2) := by decide +kernel
theorem dX7_askedTrack_92 : decode cX7_askedTrack 92 = .ok (.aload_n 0, 1) := by decide +kernel
theorem dX7_askedTrack_93 : decode cX7_askedTrack 93 = .ok (.getfield 151, 3) := by decide +kernel
theorem dX7_askedTrack_96 : decode cX7_askedTrack 96 = .ok (.if_icmp .ge 40, 3) := by decide +kernel
theorem dX7_askedTrack_99 : decode cX7_askedTrack 99 = .ok (.aload_n 0, 1) := by decide +kernel
theorem dX7_askedTrack_100 : decode cX7_askedTrack 100 = .ok (.iload_n 3, 1) := by decide +kernel
theorem dX7_askedTrack_101 : decode cX7_askedTrack 101 = .ok (.iload 5, 2) := by decide +kernel
theorem dX7_askedTrack_103 : decode cX7_askedTrack 103 = .ok (.invokevirtual 105, 3) := by decide +kernel
theorem dX7_askedTrack_106 : decode cX7_askedTrack 106 = .ok (.bipush (-9), 2) := by decide +kernel
theorem dX7_askedTrack_108 : decode cX7_askedTrack 108 = .ok (.if_icmp .eq 22, 3) := by decide +kernel
theorem dX7_askedTrack_111 : decode cX7_askedTrack 111 = .ok (.aload_n 0, 1) := by decide +kernel
theorem dX7_askedTrack_112 : decode cX7_askedTrack 112 = .ok (.iload_n 3, 1) := by decide +kernel
theorem dX7_askedTrack_113 : decode cX7_askedTrack 113 = .ok (.iload 5, 2) := by decide +kernel
theorem dX7_askedTrack_115 : decode cX7_askedTrack 115 = .ok (.invokevirtual 105, 3) := by decide +kernel
theorem dX7_askedTrack_118 : decode cX7_askedTrack 118 = .ok (.invokestatic 204, 3) := by decide +kernel
theorem dX7_askedTrack_121 : decode cX7_askedTrack 121 = .ok (.ifCond .ne 9, 3) := by decide +kernel
theorem dX7_askedTrack_124 : decode cX7_askedTrack 124 = .ok (.aload_n 0, 1) := by decide +kernel
theorem dX7_askedTrack_125 : decode cX7_askedTrack 125 = .ok (.iconst 3, 1) := by decide +kernel
theorem dX7_askedTrack_126 : decode cX7_askedTrack 126 = .ok (.invokevirtual 91, 3) := by decide +kernel
theorem dX7_askedTrack_129 : decode cX7_askedTrack 129 = .ok (.ireturn, 1) := by decide +kernel
theorem dX7_askedTrack_130 : decode cX7_askedTrack 130 = .ok (.iinc 5 1, 3) := by decide +kernel
theorem dX7_askedTrack_133 : decode cX7_askedTrack 133 = .ok (.goto (-43), 3) := by decide +kernel
theorem dX7_askedTrack_136 : decode cX7_askedTrack 136 = .ok (.iconst 0, 1) := by decide +kernel
theorem dX7_askedTrack_137 : decode cX7_askedTrack 137 = .ok (.ireturn, 1) := by decide +kernel
theorem dX7_setFits_0 : decode cX7_setFits 0 = .ok (.aload_n 0, 1) := by decide +kernel
theorem dX7_setFits_1 : decode cX7_setFits 1 = .ok (.iconst 0, 1) := by decide +kernel
theorem dX7_setFits_2 : decode cX7_setFits 2 = .ok (.putfield 295, 3) := by decide +kernel
theorem dX7_setFits_5 : decode cX7_setFits 5 = .ok (.aload_n 0, 1) := by decide +kernel
theorem dX7_setFits_6 : decode cX7_setFits 6 = .ok (.bipush (-9), 2) := by decide +kernel
theorem dX7_setFits_8 : decode cX7_setFits 8 = .ok (.putfield 298, 3) := by decide +kernel
theorem dX7_setFits_11 : decode cX7_setFits 11 = .ok (.iconst 0, 1) := by decide +kernel
end
section
theorem dX7_setFits_12 : decode cX7_setFits 12 = .ok (.istore 4, 2) := by decide +kernel
theorem dX7_setFits_14 : decode cX7_setFits 14 = .ok (.iload 4, 2) := by decide +kernel
theorem dX7_setFits_16 : decode cX7_setFits 16 = .ok (.bipush 6, 2) := by decide +kernel
theorem dX7_setFits_18 : decode cX7_setFits 18 = .ok (.if_icmp .ge 31, 3) := by decide +kernel
theorem dX7_setFits_21 : decode cX7_setFits 21 = .ok (.aload_n 0, 1) := by decide +kernel
theorem dX7_setFits_22 : decode cX7_setFits 22 = .ok (.getfield 73, 3) := by decide +kernel
theorem dX7_setFits_25 : decode cX7_setFits 25 = .ok (.iload 4, 2) := by decide +kernel
theorem dX7_setFits_27 : decode cX7_setFits 27 = .ok (.iconst 0, 1) := by decide +kernel
theorem dX7_setFits_28 : decode cX7_setFits 28 = .ok (.iastore, 1) := by decide +kernel
theorem dX7_setFits_29 : decode cX7_setFits 29 = .ok (.aload_n 0, 1) := by decide +kernel
theorem dX7_setFits_30 : decode cX7_setFits 30 = .ok (.getfield 70, 3) := by decide +kernel
theorem dX7_setFits_33 : decode cX7_setFits 33 = .ok (.iload 4, 2) := by decide +kernel
theorem dX7_setFits_35 : decode cX7_setFits 35 = .ok (.aload_n 0, 1) := by decide +kernel
theorem dX7_setFits_36 : decode cX7_setFits 36 = .ok (.getfield 34, 3) := by decide +kernel
theorem dX7_setFits_39 : decode cX7_setFits 39 = .ok (.iload 4, 2) := by decide +kernel
theorem dX7_setFits_41 : decode cX7_setFits 41 = .ok (.iaload, 1) := by decide +kernel
theorem dX7_setFits_42 : decode cX7_setFits 42 = .ok (.iastore, 1) := by decide +kernel
theorem dX7_setFits_43 : decode cX7_setFits 43 = .ok (.iinc 4 1, 3) := by decide +kernel
theorem dX7_setFits_46 : decode cX7_setFits 46 = .ok (.goto (-32), 3) := by decide +kernel
theorem dX7_setFits_49 : decode cX7_setFits 49 = .ok (.aload_n 0, 1) := by decide +kernel
theorem dX7_setFits_50 : decode cX7_setFits 50 = .ok (.iload_n 1, 1) := by decide +kernel
theorem dX7_setFits_51 : decode cX7_setFits 51 = .ok (.iload_n 2, 1) := by decide +kernel
theorem dX7_setFits_52 : decode cX7_setFits 52 = .ok (.iload_n 3, 1) := by decide +kernel
theorem dX7_setFits_53 : decode cX7_setFits 53 = .ok (.iconst 0, 1) := by decide +kernel
theorem dX7_setFits_54 : decode cX7_setFits 54 = .ok (.iconst 0, 1) := by decide +kernel
theorem dX7_setFits_55 : decode cX7_setFits 55 = .ok (.invokevirtual 301, 3) := by decide +kernel
theorem dX7_setFits_58 : decode cX7_setFits 58 = .ok (.iconst 0, 1) := by decide +kernel
theorem dX7_setFits_59 : decode cX7_setFits 59 = .ok (.istore 4, 2) := by decide +kernel
theorem dX7_setFits_61 : decode cX7_setFits 61 = .ok (.iload 4, 2) := by decide +kernel
theorem dX7_setFits_63 : decode cX7_setFits 63 = .ok (.bipush 6, 2) := by decide +kernel
theorem dX7_setFits_65 : decode cX7_setFits 65 = .ok (.if_icmp .ge 23, 3) := by decide +kernel
theorem dX7_setFits_68 : decode cX7_setFits 68 = .ok (.aload_n 0, 1) := by decide +kernel
theorem dX7_setFits_69 : decode cX7_setFits 69 = .ok (.getfield 34, 3) := by decide +kernel
theorem dX7_setFits_72 : decode cX7_setFits 72 = .ok (.iload 4, 2) := by decide +kernel
theorem dX7_setFits_74 : decode cX7_setFits 74 = .ok (.aload_n 0, 1) := by decide +kernel
theorem dX7_setFits_75 : decode cX7_setFits 75 = .ok (.getfield 70, 3) := by decide +kernel
theorem dX7_setFits_78 : decode cX7_setFits 78 = .ok (.iload 4, 2) := by decide +kernel
theorem dX7_setFits_80 : decode cX7_setFits 80 = .ok (.iaload, 1) := by decide +kernel
theorem dX7_setFits_81 : decode cX7_setFits 81 = .ok (.iastore, 1) := by decide +kernel
theorem dX7_setFits_82 : decode cX7_setFits 82 = .ok (.iinc 4 1, 3) := by decide +kernel
theorem dX7_setFits_85 : decode cX7_setFits 85 = .ok (.goto (-24), 3) := by decide +kernel
theorem dX7_setFits_88 : decode cX7_setFits 88 = .ok (.return_, 1) := by decide +kernel
theorem dX7_fitOn_0 : decode cX7_fitOn 0 = .ok (.iload 4, 2) := by decide +kernel
theorem dX7_fitOn_2 : decode cX7_fitOn 2 = .ok (.aload_n 0, 1) := by decide +kernel
theorem dX7_fitOn_3 : decode cX7_fitOn 3 = .ok (.getfield 151, 3) := by decide +kernel
theorem dX7_fitOn_6 : decode cX7_fitOn 6 = .ok (.if_icmp .ne 80, 3) := by decide +kernel
theorem dX7_fitOn_9 : decode cX7_fitOn 9 = .ok (.aload_n 0, 1) := by decide +kernel
theorem dX7_fitOn_10 : decode cX7_fitOn 10 = .ok (.iload_n 2, 1) := by decide +kernel
theorem dX7_fitOn_11 : decode cX7_fitOn 11 = .ok (.iload_n 3, 1) := by decide +kernel
theorem dX7_fitOn_12 : decode cX7_fitOn 12 = .ok (.invokevirtual 305, 3) := by decide +kernel
theorem dX7_fitOn_15 : decode cX7_fitOn 15 = .ok (.ifCond .eq 70, 3) := by decide +kernel
theorem dX7_fitOn_18 : decode cX7_fitOn 18 = .ok (.aload_n 0, 1) := by decide +kernel
theorem dX7_fitOn_19 : decode cX7_fitOn 19 = .ok (.aload_n 0, 1) := by decide +kernel
theorem dX7_fitOn_20 : decode cX7_fitOn 20 = .ok (.getfield 295, 3) := by decide +kernel
theorem dX7_fitOn_23 : decode cX7_fitOn 23 = .ok (.ifCond .ne 8, 3) := by decide +kernel
theorem dX7_fitOn_26 : decode cX7_fitOn 26 = .ok (.iload 5, 2) := by decide +kernel
theorem dX7_fitOn_28 : decode cX7_fitOn 28 = .ok (.goto 7, 3) := by decide +kernel
theorem dX7_fitOn_31 : decode cX7_fitOn 31 = .ok (.aload_n 0, 1) := by decide +kernel
theorem dX7_fitOn_32 : decode cX7_fitOn 32 = .ok (.getfield 298, 3) := by decide +kernel
theorem dX7_fitOn_35 : decode cX7_fitOn 35 = .ok (.putfield 298, 3) := by decide +kernel
theorem dX7_fitOn_38 : decode cX7_fitOn 38 = .ok (.aload_n 0, 1) := by decide +kernel
theorem dX7_fitOn_39 : decode cX7_fitOn 39 = .ok (.dup, 1) := by decide +kernel
theorem dX7_fitOn_40 : decode cX7_fitOn 40 = .ok (.getfield 295, 3) := by decide +kernel
theorem dX7_fitOn_43 : decode cX7_fitOn 43 = .ok (.iconst 1, 1) := by decide +kernel
theorem dX7_fitOn_44 : decode cX7_fitOn 44 = .ok (.iadd, 1) := by decide +kernel
theorem dX7_fitOn_45 : decode cX7_fitOn 45 = .ok (.putfield 295, 3) := by decide +kernel
theorem dX7_fitOn_48 : decode cX7_fitOn 48 = .ok (.iconst 0, 1) := by decide +kernel
theorem dX7_fitOn_49 : decode cX7_fitOn 49 = .ok (.istore 6, 2) := by decide +kernel
theorem dX7_fitOn_51 : decode cX7_fitOn 51 = .ok (.iload 6, 2) := by decide +kernel
theorem dX7_fitOn_53 : decode cX7_fitOn 53 = .ok (.aload_n 0, 1) := by decide +kernel
theorem dX7_fitOn_54 : decode cX7_fitOn 54 = .ok (.getfield 151, 3) := by decide +kernel
theorem dX7_fitOn_57 : decode cX7_fitOn 57 = .ok (.if_icmp .ge 28, 3) := by decide +kernel
theorem dX7_fitOn_60 : decode cX7_fitOn 60 = .ok (.aload_n 0, 1) := by decide +kernel
theorem dX7_fitOn_61 : decode cX7_fitOn 61 = .ok (.getfield 73, 3) := by decide +kernel
theorem dX7_fitOn_64 : decode cX7_fitOn 64 = .ok (.iload 6, 2) := by decide +kernel
theorem dX7_fitOn_66 : decode cX7_fitOn 66 = .ok (.dup2, 1) := by decide +kernel
theorem dX7_fitOn_67 : decode cX7_fitOn 67 = .ok (.iaload, 1) := by decide +kernel
theorem dX7_fitOn_68 : decode cX7_fitOn 68 = .ok (.iconst 1, 1) := by decide +kernel
theorem dX7_fitOn_69 : decode cX7_fitOn 69 = .ok (.aload_n 0, 1) := by decide +kernel
theorem dX7_fitOn_70 : decode cX7_fitOn 70 = .ok (.getfield 34, 3) := by decide +kernel
theorem dX7_fitOn_73 : decode cX7_fitOn 73 = .ok (.iload 6, 2) := by decide +kernel
theorem dX7_fitOn_75 : decode cX7_fitOn 75 = .ok (.iaload, 1) := by decide +kernel
theorem dX7_fitOn_76 : decode cX7_fitOn 76 = .ok (.ishl, 1) := by decide +kernel
theorem dX7_fitOn_77 : decode cX7_fitOn 77 = .ok (.ior, 1) := by decide +kernel
theorem dX7_fitOn_78 : decode cX7_fitOn 78 = .ok (.iastore, 1) := by decide +kernel
theorem dX7_fitOn_79 : decode cX7_fitOn 79 = .ok (.iinc 6 1, 3) := by decide +kernel
theorem dX7_fitOn_82 : decode cX7_fitOn 82 = .ok (.goto (-31), 3) := by decide +kernel
theorem dX7_fitOn_85 : decode cX7_fitOn 85 = .ok (.return_, 1) := by decide +kernel
theorem dX7_fitOn_86 : decode cX7_fitOn 86 = .ok (.iload_n 1, 1) := by decide +kernel
theorem dX7_fitOn_87 : decode cX7_fitOn 87 = .ok (.iload 4, 2) := by decide +kernel
theorem dX7_fitOn_89 : decode cX7_fitOn 89 = .ok (.invokestatic 207, 3) := by decide +kernel
theorem dX7_fitOn_92 : decode cX7_fitOn 92 = .ok (.ifCond .ne 17, 3) := by decide +kernel
theorem dX7_fitOn_95 : decode cX7_fitOn 95 = .ok (.aload_n 0, 1) := by decide +kernel
theorem dX7_fitOn_96 : decode cX7_fitOn 96 = .ok (.iload_n 1, 1) := by decide +kernel
theorem dX7_fitOn_97 : decode cX7_fitOn 97 = .ok (.iload_n 2, 1) := by decide +kernel
theorem dX7_fitOn_98 : decode cX7_fitOn 98 = .ok (.iload_n 3, 1) := by decide +kernel
theorem dX7_fitOn_99 : decode cX7_fitOn 99 = .ok (.iload 4, 2) := by decide +kernel
theorem dX7_fitOn_101 : decode cX7_fitOn 101 = .ok (.iconst 1, 1) := by decide +kernel
theorem dX7_fitOn_102 : decode cX7_fitOn 102 = .ok (.iadd, 1) := by decide +kernel
theorem dX7_fitOn_103 : decode cX7_fitOn 103 = .ok (.iload 5, 2) := by decide +kernel
theorem dX7_fitOn_105 : decode cX7_fitOn 105 = .ok (.invokevirtual 301, 3) := by decide +kernel
theorem dX7_fitOn_108 : decode cX7_fitOn 108 = .ok (.return_, 1) := by decide +kernel
theorem dX7_fitOn_109 : decode cX7_fitOn 109 = .ok (.iconst 0, 1) := by decide +kernel
theorem dX7_fitOn_110 : decode cX7_fitOn 110 = .ok (.istore 6, 2) := by decide +kernel
theorem dX7_fitOn_112 : decode cX7_fitOn 112 = .ok (.iload 6, 2) := by decide +kernel
theorem dX7_fitOn_114 : decode cX7_fitOn 114 = .ok (.iconst 4, 1) := by decide +kernel
theorem dX7_fitOn_115 : decode cX7_fitOn 115 = .ok (.if_icmp .gt 36, 3) := by decide +kernel
theorem dX7_fitOn_118 : decode cX7_fitOn 118 = .ok (.aload_n 0, 1) := by decide +kernel
theorem dX7_fitOn_119 : decode cX7_fitOn 119 = .ok (.getfield 34, 3) := by decide +kernel
theorem dX7_fitOn_122 : decode cX7_fitOn 122 = .ok (.iload 4, 2) := by decide +kernel
theorem dX7_fitOn_124 : decode cX7_fitOn 124 = .ok (.iload 6, 2) := by decide +kernel
theorem dX7_fitOn_126 : decode cX7_fitOn 126 = .ok (.iastore, 1) := by decide +kernel
theorem dX7_fitOn_127 : decode cX7_fitOn 127 = .ok (.aload_n 0, 1) := by decide +kernel
theorem dX7_fitOn_128 : decode cX7_fitOn 128 = .ok (.iload_n 1, 1) := by decide +kernel
theorem dX7_fitOn_129 : decode cX7_fitOn 129 = .ok (.iload_n 2, 1) := by decide +kernel
theorem dX7_fitOn_130 : decode cX7_fitOn 130 = .ok (.iload_n 3, 1) := by decide +kernel
theorem dX7_fitOn_131 : decode cX7_fitOn 131 = .ok (.iload 4, 2) := by decide +kernel
theorem dX7_fitOn_133 : decode cX7_fitOn 133 = .ok (.iconst 1, 1) := by decide +kernel
theorem dX7_fitOn_134 : decode cX7_fitOn 134 = .ok (.iadd, 1) := by decide +kernel
theorem dX7_fitOn_135 : decode cX7_fitOn 135 = .ok (.iconst 5, 1) := by decide +kernel
theorem dX7_fitOn_136 : decode cX7_fitOn 136 = .ok (.iload 5, 2) := by decide +kernel
theorem dX7_fitOn_138 : decode cX7_fitOn 138 = .ok (.imul, 1) := by decide +kernel
theorem dX7_fitOn_139 : decode cX7_fitOn 139 = .ok (.iload 6, 2) := by decide +kernel
theorem dX7_fitOn_141 : decode cX7_fitOn 141 = .ok (.iadd, 1) := by decide +kernel
theorem dX7_fitOn_142 : decode cX7_fitOn 142 = .ok (.invokevirtual 301, 3) := by decide +kernel
theorem dX7_fitOn_145 : decode cX7_fitOn 145 = .ok (.iinc 6 1, 3) := by decide +kernel
theorem dX7_fitOn_148 : decode cX7_fitOn 148 = .ok (.goto (-36), 3) := by decide +kernel
theorem dX7_fitOn_151 : decode cX7_fitOn 151 = .ok (.return_, 1) := by decide +kernel
theorem dX7_isTrack_0 : decode cX7_isTrack 0 = .ok (.aload_n 0, 1) := by decide +kernel
theorem dX7_isTrack_1 : decode cX7_isTrack 1 = .ok (.invokevirtual 253, 3) := by decide +kernel
theorem dX7_isTrack_4 : decode cX7_isTrack 4 = .ok (.iconst 0, 1) := by decide +kernel
theorem dX7_isTrack_5 : decode cX7_isTrack 5 = .ok (.istore_n 3, 1) := by decide +kernel
theorem dX7_isTrack_6 : decode cX7_isTrack 6 = .ok (.iload_n 3, 1) := by decide +kernel
theorem dX7_isTrack_7 : decode cX7_isTrack 7 = .ok (.iload_n 1, 1) := by decide +kernel
theorem dX7_isTrack_8 : decode cX7_isTrack 8 = .ok (.if_icmp .ge 16, 3) := by decide +kernel
theorem dX7_isTrack_11 : decode cX7_isTrack 11 = .ok (.aload_n 0, 1) := by decide +kernel
theorem dX7_isTrack_12 : decode cX7_isTrack 12 = .ok (.iconst 0, 1) := by decide +kernel
theorem dX7_isTrack_13 : decode cX7_isTrack 13 = .ok (.bipush (-9), 2) := by decide +kernel
theorem dX7_isTrack_15 : decode cX7_isTrack 15 = .ok (.invokevirtual 241, 3) := by decide +kernel
theorem dX7_isTrack_18 : decode cX7_isTrack 18 = .ok (.iinc 3 1, 3) := by decide +kernel
theorem dX7_isTrack_21 : decode cX7_isTrack 21 = .ok (.goto (-15), 3) := by decide +kernel
theorem dX7_isTrack_24 : decode cX7_isTrack 24 = .ok (.iconst 1, 1) := by decide +kernel
theorem dX7_isTrack_25 : decode cX7_isTrack 25 = .ok (.istore_n 3, 1) := by decide +kernel
theorem dX7_isTrack_26 : decode cX7_isTrack 26 = .ok (.iconst 0, 1) := by decide +kernel
theorem dX7_isTrack_27 : decode cX7_isTrack 27 = .ok (.istore 4, 2) := by decide +kernel
theorem dX7_isTrack_29 : decode cX7_isTrack 29 = .ok (.iload 4, 2) := by decide +kernel
theorem dX7_isTrack_31 : decode cX7_isTrack 31 = .ok (.aload_n 0, 1) := by decide +kernel
theorem dX7_isTrack_32 : decode cX7_isTrack 32 = .ok (.getfield 151, 3) := by decide +kernel
theorem dX7_isTrack_35 : decode cX7_isTrack 35 = .ok (.if_icmp .ge 48, 3) := by decide +kernel
theorem dX7_isTrack_38 : decode cX7_isTrack 38 = .ok (.iload_n 3, 1) := by decide +kernel
theorem dX7_isTrack_39 : decode cX7_isTrack 39 = .ok (.ifCond .eq 36, 3) := by decide +kernel
theorem dX7_isTrack_42 : decode cX7_isTrack 42 = .ok (.aload_n 0, 1) := by decide +kernel
theorem dX7_isTrack_43 : decode cX7_isTrack 43 = .ok (.iload_n 2, 1) := by decide +kernel
theorem dX7_isTrack_44 : decode cX7_isTrack 44 = .ok (.iload 4, 2) := by decide +kernel
theorem dX7_isTrack_46 : decode cX7_isTrack 46 = .ok (.invokevirtual 105, 3) := by decide +kernel
theorem dX7_isTrack_49 : decode cX7_isTrack 49 = .ok (.bipush (-9), 2) := by decide +kernel
theorem dX7_isTrack_51 : decode cX7_isTrack 51 = .ok (.if_icmp .eq 20, 3) := by decide +kernel
theorem dX7_isTrack_54 : decode cX7_isTrack 54 = .ok (.aload_n 0, 1) := by decide +kernel
theorem dX7_isTrack_55 : decode cX7_isTrack 55 = .ok (.iload_n 2, 1) := by decide +kernel
theorem dX7_isTrack_56 : decode cX7_isTrack 56 = .ok (.iload 4, 2) := by decide +kernel
theorem dX7_isTrack_58 : decode cX7_isTrack 58 = .ok (.invokevirtual 105, 3) := by decide +kernel
theorem dX7_isTrack_61 : decode cX7_isTrack 61 = .ok (.aload_n 0, 1) := by decide +kernel
theorem dX7_isTrack_62 : decode cX7_isTrack 62 = .ok (.getfield 31, 3) := by decide +kernel
theorem dX7_isTrack_65 : decode cX7_isTrack 65 = .ok (.iload 4, 2) := by decide +kernel
theorem dX7_isTrack_67 : decode cX7_isTrack 67 = .ok (.iaload, 1) := by decide +kernel
theorem dX7_isTrack_68 : decode cX7_isTrack 68 = .ok (.if_icmp .ne 7, 3) := by decide +kernel
theorem dX7_isTrack_71 : decode cX7_isTrack 71 = .ok (.iconst 1, 1) := by decide +kernel
theorem dX7_isTrack_72 : decode cX7_isTrack 72 = .ok (.goto 4, 3) := by decide +kernel
theorem dX7_isTrack_75 : decode cX7_isTrack 75 = .ok (.iconst 0, 1) := by decide +kernel
theorem dX7_isTrack_76 : decode cX7_isTrack 76 = .ok (.istore_n 3, 1) := by decide +kernel
theorem dX7_isTrack_77 : decode cX7_isTrack 77 = .ok (.iinc 4 1, 3) := by decide +kernel
theorem dX7_isTrack_80 : decode cX7_isTrack 80 = .ok (.goto (-51), 3) := by decide +kernel
theorem dX7_isTrack_83 : decode cX7_isTrack 83 = .ok (.aload_n 0, 1) := by decide +kernel
theorem dX7_isTrack_84 : decode cX7_isTrack 84 = .ok (.invokevirtual 256, 3) := by decide +kernel
theorem dX7_isTrack_87 : decode cX7_isTrack 87 = .ok (.iload_n 3, 1) := by decide +kernel
theorem dX7_isTrack_88 : decode cX7_isTrack 88 = .ok (.ireturn, 1) := by decide +kernel
theorem dX7_fits_0 : decode cX7_fits 0 = .ok (.aload_n 0, 1) := by decide +kernel
theorem dX7_fits_1 : decode cX7_fits 1 = .ok (.iload_n 1, 1) := by decide +kernel
theorem dX7_fits_2 : decode cX7_fits 2 = .ok (.iload_n 2, 1) := by decide +kernel
theorem dX7_fits_3 : decode cX7_fits 3 = .ok (.iload_n 3, 1) := by decide +kernel
theorem dX7_fits_4 : decode cX7_fits 4 = .ok (.invokevirtual 308, 3) := by decide +kernel
theorem dX7_fits_7 : decode cX7_fits 7 = .ok (.istore 4, 2) := by decide +kernel
theorem dX7_fits_9 : decode cX7_fits 9 = .ok (.iload 4, 2) := by decide +kernel
theorem dX7_fits_11 : decode cX7_fits 11 = .ok (.ifCond .ge 6, 3) := by decide +kernel
theorem dX7_fits_14 : decode cX7_fits 14 = .ok (.iload 4, 2) := by decide +kernel
theorem dX7_fits_16 : decode cX7_fits 16 = .ok (.ireturn, 1) := by decide +kernel
theorem dX7_fits_17 : decode cX7_fits 17 = .ok (.aload_n 0, 1) := by decide +kernel
theorem dX7_fits_18 : decode cX7_fits 18 = .ok (.iload_n 1, 1) := by decide +kernel
theorem dX7_fits_19 : decode cX7_fits 19 = .ok (.iload_n 2, 1) := by decide +kernel
theorem dX7_fits_20 : decode cX7_fits 20 = .ok (.iload_n 3, 1) := by decide +kernel
theorem dX7_fits_21 : decode cX7_fits 21 = .ok (.invokevirtual 311, 3) := by decide +kernel
theorem dX7_fits_24 : decode cX7_fits 24 = .ok (.aload_n 0, 1) := by decide +kernel
theorem dX7_fits_25 : decode cX7_fits 25 = .ok (.aload_n 0, 1) := by decide +kernel
theorem dX7_fits_26 : decode cX7_fits 26 = .ok (.getfield 298, 3) := by decide +kernel
theorem dX7_fits_29 : decode cX7_fits 29 = .ok (.aload_n 0, 1) := by decide +kernel
theorem dX7_fits_30 : decode cX7_fits 30 = .ok (.getfield 295, 3) := by decide +kernel
theorem dX7_fits_33 : decode cX7_fits 33 = .ok (.invokevirtual 109, 3) := by decide +kernel
theorem dX7_fits_36 : decode cX7_fits 36 = .ok (.ireturn, 1) := by decide +kernel
theorem dX7_could_0 : decode cX7_could 0 = .ok (.aload_n 0, 1) := by decide +kernel
theorem dX7_could_1 : decode cX7_could 1 = .ok (.iload 4, 2) := by decide +kernel
theorem dX7_could_3 : decode cX7_could 3 = .ok (.invokevirtual 166, 3) := by decide +kernel
theorem dX7_could_6 : decode cX7_could 6 = .ok (.ifCond .eq 12, 3) := by decide +kernel
theorem dX7_could_9 : decode cX7_could 9 = .ok (.iload_n 1, 1) := by decide +kernel
theorem dX7_could_10 : decode cX7_could 10 = .ok (.iload 4, 2) := by decide +kernel
theorem dX7_could_12 : decode cX7_could 12 = .ok (.invokestatic 207, 3) := by decide +kernel
theorem dX7_could_15 : decode cX7_could 15 = .ok (.ifCond .ne 5, 3) := by decide +kernel
theorem dX7_could_18 : decode cX7_could 18 = .ok (.iconst (-1), 1) := by decide +kernel
theorem dX7_could_19 : decode cX7_could 19 = .ok (.ireturn, 1) := by decide +kernel
theorem dX7_could_20 : decode cX7_could 20 = .ok (.aload_n 0, 1) := by decide +kernel
theorem dX7_could_21 : decode cX7_could 21 = .ok (.iload_n 1, 1) := by decide +kernel
theorem dX7_could_22 : decode cX7_could 22 = .ok (.iload_n 2, 1) := by decide +kernel
theorem dX7_could_23 : decode cX7_could 23 = .ok (.iload_n 3, 1) := by decide +kernel
theorem dX7_could_24 : decode cX7_could 24 = .ok (.invokevirtual 308, 3) := by decide +kernel
theorem dX7_could_27 : decode cX7_could 27 = .ok (.istore 5, 2) := by decide +kernel
theorem dX7_could_29 : decode cX7_could 29 = .ok (.iload 5, 2) := by decide +kernel
theorem dX7_could_31 : decode cX7_could 31 = .ok (.ifCond .ge 6, 3) := by decide +kernel
theorem dX7_could_34 : decode cX7_could 34 = .ok (.iload 5, 2) := by decide +kernel
theorem dX7_could_36 : decode cX7_could 36 = .ok (.ireturn, 1) := by decide +kernel
theorem dX7_could_37 : decode cX7_could 37 = .ok (.aload_n 0, 1) := by decide +kernel
theorem dX7_could_38 : decode cX7_could 38 = .ok (.iload_n 1, 1) := by decide +kernel
theorem dX7_could_39 : decode cX7_could 39 = .ok (.iload_n 2, 1) := by decide +kernel
theorem dX7_could_40 : decode cX7_could 40 = .ok (.iload_n 3, 1) := by decide +kernel
theorem dX7_could_41 : decode cX7_could 41 = .ok (.invokevirtual 311, 3) := by decide +kernel
theorem dX7_could_44 : decode cX7_could 44 = .ok (.aload_n 0, 1) := by decide +kernel
theorem dX7_could_45 : decode cX7_could 45 = .ok (.getfield 73, 3) := by decide +kernel
theorem dX7_could_48 : decode cX7_could 48 = .ok (.iload 4, 2) := by decide +kernel
theorem dX7_could_50 : decode cX7_could 50 = .ok (.iaload, 1) := by decide +kernel
theorem dX7_could_51 : decode cX7_could 51 = .ok (.ireturn, 1) := by decide +kernel
theorem dX7_winds_0 : decode cX7_winds 0 = .ok (.iload_n 1, 1) := by decide +kernel
theorem dX7_winds_1 : decode cX7_winds 1 = .ok (.iconst 1, 1) := by decide +kernel
theorem dX7_winds_2 : decode cX7_winds 2 = .ok (.bipush 60, 2) := by decide +kernel
theorem dX7_winds_4 : decode cX7_winds 4 = .ok (.invokestatic 83, 3) := by decide +kernel
theorem dX7_winds_7 : decode cX7_winds 7 = .ok (.ifCond .eq 14, 3) := by decide +kernel
theorem dX7_winds_10 : decode cX7_winds 10 = .ok (.iload_n 2, 1) := by decide +kernel
theorem dX7_winds_11 : decode cX7_winds 11 = .ok (.iconst 1, 1) := by decide +kernel
theorem dX7_winds_12 : decode cX7_winds 12 = .ok (.ldc_w 314, 3) := by decide +kernel
theorem dX7_winds_15 : decode cX7_winds 15 = .ok (.invokestatic 83, 3) := by decide +kernel
theorem dX7_winds_18 : decode cX7_winds 18 = .ok (.ifCond .ne 5, 3) := by decide +kernel
theorem dX7_winds_21 : decode cX7_winds 21 = .ok (.iconst (-1), 1) := by decide +kernel
theorem dX7_winds_22 : decode cX7_winds 22 = .ok (.ireturn, 1) := by decide +kernel
theorem dX7_winds_23 : decode cX7_winds 23 = .ok (.aload_n 0, 1) := by decide +kernel
theorem dX7_winds_24 : decode cX7_winds 24 = .ok (.getfield 151, 3) := by decide +kernel
theorem dX7_winds_27 : decode cX7_winds 27 = .ok (.ifCond .ne 6, 3) := by decide +kernel
theorem dX7_winds_30 : decode cX7_winds 30 = .ok (.bipush (-4), 2) := by decide +kernel
theorem dX7_winds_32 : decode cX7_winds 32 = .ok (.ireturn, 1) := by decide +kernel
theorem dX7_winds_33 : decode cX7_winds 33 = .ok (.aload_n 0, 1) := by decide +kernel
theorem dX7_winds_34 : decode cX7_winds 34 = .ok (.invokevirtual 253, 3) := by decide +kernel
theorem dX7_winds_37 : decode cX7_winds 37 = .ok (.iload_n 2, 1) := by decide +kernel
theorem dX7_winds_38 : decode cX7_winds 38 = .ok (.i2l, 1) := by decide +kernel
theorem dX7_winds_39 : decode cX7_winds 39 = .ok (.lstore_n 3, 1) := by decide +kernel
theorem dX7_winds_40 : decode cX7_winds 40 = .ok (.iconst 0, 1) := by decide +kernel
theorem dX7_winds_41 : decode cX7_winds 41 = .ok (.istore 5, 2) := by decide +kernel
theorem dX7_winds_43 : decode cX7_winds 43 = .ok (.iconst 0, 1) := by decide +kernel
theorem dX7_winds_44 : decode cX7_winds 44 = .ok (.istore 6, 2) := by decide +kernel
theorem dX7_winds_46 : decode cX7_winds 46 = .ok (.iconst 0, 1) := by decide +kernel
theorem dX7_winds_47 : decode cX7_winds 47 = .ok (.istore 7, 2) := by decide +kernel
theorem dX7_winds_49 : decode cX7_winds 49 = .ok (.iload 7, 2) := by decide +kernel
theorem dX7_winds_51 : decode cX7_winds 51 = .ok (.iload_n 1, 1) := by decide +kernel
theorem dX7_winds_52 : decode cX7_winds 52 = .ok (.if_icmp .ge 54, 3) := by decide +kernel
theorem dX7_winds_55 : decode cX7_winds 55 = .ok (.ldc2_w 315, 3) := by decide +kernel
theorem dX7_winds_58 : decode cX7_winds 58 = .ok (.lload_n 3, 1) := by decide +kernel
theorem dX7_winds_59 : decode cX7_winds 59 = .ok (.lmul, 1) := by decide +kernel
theorem dX7_winds_60 : decode cX7_winds 60 = .ok (.ldc2_w 317, 3) := by decide +kernel
theorem dX7_winds_63 : decode cX7_winds 63 = .ok (.lrem, 1) := by decide +kernel
theorem dX7_winds_64 : decode cX7_winds 64 = .ok (.lstore_n 3, 1) := by decide +kernel
theorem dX7_winds_65 : decode cX7_winds 65 = .ok (.aload_n 0, 1) := by decide +kernel
theorem dX7_winds_66 : decode cX7_winds 66 = .ok (.lload_n 3, 1) := by decide +kernel
theorem dX7_winds_67 : decode cX7_winds 67 = .ok (.ldc2_w 319, 3) := by decide +kernel
theorem dX7_winds_70 : decode cX7_winds 70 = .ok (.lrem, 1) := by decide +kernel
theorem dX7_winds_71 : decode cX7_winds 71 = .ok (.l2i, 1) := by decide +kernel
theorem dX7_winds_72 : decode cX7_winds 72 = .ok (.iconst 1, 1) := by decide +kernel
theorem dX7_winds_73 : decode cX7_winds 73 = .ok (.isub, 1) := by decide +kernel
theorem dX7_winds_74 : decode cX7_winds 74 = .ok (.bipush (-9), 2) := by decide +kernel
theorem dX7_winds_76 : decode cX7_winds 76 = .ok (.invokevirtual 241, 3) := by decide +kernel
theorem dX7_winds_79 : decode cX7_winds 79 = .ok (.iload 5, 2) := by decide +kernel
theorem dX7_winds_81 : decode cX7_winds 81 = .ok (.aload_n 0, 1) := by decide +kernel
theorem dX7_winds_82 : decode cX7_winds 82 = .ok (.getfield 218, 3) := by decide +kernel
theorem dX7_winds_85 : decode cX7_winds 85 = .ok (.invokestatic 192, 3) := by decide +kernel
theorem dX7_winds_88 : decode cX7_winds 88 = .ok (.iadd, 1) := by decide +kernel
theorem dX7_winds_89 : decode cX7_winds 89 = .ok (.istore 5, 2) := by decide +kernel
theorem dX7_winds_91 : decode cX7_winds 91 = .ok (.iload 6, 2) := by decide +kernel
theorem dX7_winds_93 : decode cX7_winds 93 = .ok (.aload_n 0, 1) := by decide +kernel
theorem dX7_winds_94 : decode cX7_winds 94 = .ok (.getfield 221, 3) := by decide +kernel
theorem dX7_winds_97 : decode cX7_winds 97 = .ok (.iadd, 1) := by decide +kernel
theorem dX7_winds_98 : decode cX7_winds 98 = .ok (.istore 6, 2) := by decide +kernel
theorem dX7_winds_100 : decode cX7_winds 100 = .ok (.iinc 7 1, 3) := by decide +kernel
theorem dX7_winds_103 : decode cX7_winds 103 = .ok (.goto (-54), 3) := by decide +kernel
theorem dX7_winds_106 : decode cX7_winds 106 = .ok (.aload_n 0, 1) := by decide +kernel
theorem dX7_winds_107 : decode cX7_winds 107 = .ok (.invokevirtual 256, 3) := by decide +kernel
theorem dX7_winds_110 : decode cX7_winds 110 = .ok (.aload_n 0, 1) := by decide +kernel
theorem dX7_winds_111 : decode cX7_winds 111 = .ok (.iload 6, 2) := by decide +kernel
theorem dX7_winds_113 : decode cX7_winds 113 = .ok (.iload 5, 2) := by decide +kernel
theorem dX7_winds_115 : decode cX7_winds 115 = .ok (.invokevirtual 109, 3) := by decide +kernel
theorem dX7_winds_118 : decode cX7_winds 118 = .ok (.ireturn, 1) := by decide +kernel
theorem dX7_asked_0 : decode cX7_asked 0 = .ok (.aload_n 0, 1) := by decide +kernel
theorem dX7_asked_1 : decode cX7_asked 1 = .ok (.getfield 80, 3) := by decide +kernel
theorem dX7_asked_4 : decode cX7_asked 4 = .ok (.ireturn, 1) := by decide +kernel
theorem dX7_allPaid_0 : decode cX7_allPaid 0 = .ok (.iconst 0, 1) := by decide +kernel
theorem dX7_allPaid_1 : decode cX7_allPaid 1 = .ok (.istore_n 1, 1) := by decide +kernel
theorem dX7_allPaid_2 : decode cX7_allPaid 2 = .ok (.iconst 0, 1) := by decide +kernel
theorem dX7_allPaid_3 : decode cX7_allPaid 3 = .ok (.istore_n 2, 1) := by decide +kernel
theorem dX7_allPaid_4 : decode cX7_allPaid 4 = .ok (.iload_n 2, 1) := by decide +kernel
theorem dX7_allPaid_5 : decode cX7_allPaid 5 = .ok (.aload_n 0, 1) := by decide +kernel
theorem dX7_allPaid_6 : decode cX7_allPaid 6 = .ok (.getfield 151, 3) := by decide +kernel
theorem dX7_allPaid_9 : decode cX7_allPaid 9 = .ok (.if_icmp .ge 18, 3) := by decide +kernel
theorem dX7_allPaid_12 : decode cX7_allPaid 12 = .ok (.iload_n 1, 1) := by decide +kernel
theorem dX7_allPaid_13 : decode cX7_allPaid 13 = .ok (.aload_n 0, 1) := by decide +kernel
theorem dX7_allPaid_14 : decode cX7_allPaid 14 = .ok (.getfield 37, 3) := by decide +kernel
theorem dX7_allPaid_17 : decode cX7_allPaid 17 = .ok (.iload_n 2, 1) := by decide +kernel
theorem dX7_allPaid_18 : decode cX7_allPaid 18 = .ok (.iaload, 1) := by decide +kernel
theorem dX7_allPaid_19 : decode cX7_allPaid 19 = .ok (.iadd, 1) := by decide +kernel
theorem dX7_allPaid_20 : decode cX7_allPaid 20 = .ok (.istore_n 1, 1) := by decide +kernel
theorem dX7_allPaid_21 : decode cX7_allPaid 21 = .ok (.iinc 2 1, 3) := by decide +kernel
theorem dX7_allPaid_24 : decode cX7_allPaid 24 = .ok (.goto (-20), 3) := by decide +kernel
theorem dX7_allPaid_27 : decode cX7_allPaid 27 = .ok (.iload_n 1, 1) := by decide +kernel
theorem dX7_allPaid_28 : decode cX7_allPaid 28 = .ok (.ireturn, 1) := by decide +kernel
theorem dX7_allPrices_0 : decode cX7_allPrices 0 = .ok (.iconst 0, 1) := by decide +kernel
theorem dX7_allPrices_1 : decode cX7_allPrices 1 = .ok (.istore_n 1, 1) := by decide +kernel
theorem dX7_allPrices_2 : decode cX7_allPrices 2 = .ok (.iconst 0, 1) := by decide +kernel
theorem dX7_allPrices_3 : decode cX7_allPrices 3 = .ok (.istore_n 2, 1) := by decide +kernel
theorem dX7_allPrices_4 : decode cX7_allPrices 4 = .ok (.iload_n 2, 1) := by decide +kernel
theorem dX7_allPrices_5 : decode cX7_allPrices 5 = .ok (.aload_n 0, 1) := by decide +kernel
theorem dX7_allPrices_6 : decode cX7_allPrices 6 = .ok (.getfield 154, 3) := by decide +kernel
theorem dX7_allPrices_9 : decode cX7_allPrices 9 = .ok (.if_icmp .ge 18, 3) := by decide +kernel
theorem dX7_allPrices_12 : decode cX7_allPrices 12 = .ok (.iload_n 1, 1) := by decide +kernel
theorem dX7_allPrices_13 : decode cX7_allPrices 13 = .ok (.aload_n 0, 1) := by decide +kernel
theorem dX7_allPrices_14 : decode cX7_allPrices 14 = .ok (.getfield 46, 3) := by decide +kernel
theorem dX7_allPrices_17 : decode cX7_allPrices 17 = .ok (.iload_n 2, 1) := by decide +kernel
theorem dX7_allPrices_18 : decode cX7_allPrices 18 = .ok (.iaload, 1) := by decide +kernel
theorem dX7_allPrices_19 : decode cX7_allPrices 19 = .ok (.iadd, 1) := by decide +kernel
theorem dX7_allPrices_20 : decode cX7_allPrices 20 = .ok (.istore_n 1, 1) := by decide +kernel
theorem dX7_allPrices_21 : decode cX7_allPrices 21 = .ok (.iinc 2 1, 3) := by decide +kernel
theorem dX7_allPrices_24 : decode cX7_allPrices 24 = .ok (.goto (-20), 3) := by decide +kernel
theorem dX7_allPrices_27 : decode cX7_allPrices 27 = .ok (.iload_n 1, 1) := by decide +kernel
theorem dX7_allPrices_28 : decode cX7_allPrices 28 = .ok (.ireturn, 1) := by decide +kernel
theorem dX7_divisor_0 : decode cX7_divisor 0 = .ok (.iload_n 0, 1) := by decide +kernel
theorem dX7_divisor_1 : decode cX7_divisor 1 = .ok (.istore_n 2, 1) := by decide +kernel
theorem dX7_divisor_2 : decode cX7_divisor 2 = .ok (.iload_n 1, 1) := by decide +kernel
theorem dX7_divisor_3 : decode cX7_divisor 3 = .ok (.istore_n 3, 1) := by decide +kernel
theorem dX7_divisor_4 : decode cX7_divisor 4 = .ok (.iload_n 3, 1) := by decide +kernel
theorem dX7_divisor_5 : decode cX7_divisor 5 = .ok (.ifCond .eq 16, 3) := by decide +kernel
theorem dX7_divisor_8 : decode cX7_divisor 8 = .ok (.iload_n 2, 1) := by decide +kernel
theorem dX7_divisor_9 : decode cX7_divisor 9 = .ok (.iload_n 3, 1) := by decide +kernel
theorem dX7_divisor_10 : decode cX7_divisor 10 = .ok (.irem, 1) := by decide +kernel
theorem dX7_divisor_11 : decode cX7_divisor 11 = .ok (.istore 4, 2) := by decide +kernel
theorem dX7_divisor_13 : decode cX7_divisor 13 = .ok (.iload_n 3, 1) := by decide +kernel
theorem dX7_divisor_14 : decode cX7_divisor 14 = .ok (.istore_n 2, 1) := by decide +kernel
theorem dX7_divisor_15 : decode cX7_divisor 15 = .ok (.iload 4, 2) := by decide +kernel
theorem dX7_divisor_17 : decode cX7_divisor 17 = .ok (.istore_n 3, 1) := by decide +kernel
theorem dX7_divisor_18 : decode cX7_divisor 18 = .ok (.goto (-14), 3) := by decide +kernel
theorem dX7_divisor_21 : decode cX7_divisor 21 = .ok (.iload_n 2, 1) := by decide +kernel
theorem dX7_divisor_22 : decode cX7_divisor 22 = .ok (.ireturn, 1) := by decide +kernel
theorem dX7_upper_0 : decode cX7_upper 0 = .ok (.aload_n 0, 1) := by decide +kernel
theorem dX7_upper_1 : decode cX7_upper 1 = .ok (.invokevirtual 321, 3) := by decide +kernel
theorem dX7_upper_4 : decode cX7_upper 4 = .ok (.istore_n 1, 1) := by decide +kernel
theorem dX7_upper_5 : decode cX7_upper 5 = .ok (.iload_n 1, 1) := by decide +kernel
theorem dX7_upper_6 : decode cX7_upper 6 = .ok (.ifCond .ne 7, 3) := by decide +kernel
theorem dX7_upper_9 : decode cX7_upper 9 = .ok (.lconst 0, 1) := by decide +kernel
theorem dX7_upper_10 : decode cX7_upper 10 = .ok (.goto 17, 3) := by decide +kernel
theorem dX7_upper_13 : decode cX7_upper 13 = .ok (.aload_n 0, 1) := by decide +kernel
theorem dX7_upper_14 : decode cX7_upper 14 = .ok (.invokevirtual 324, 3) := by decide +kernel
theorem dX7_upper_17 : decode cX7_upper 17 = .ok (.aload_n 0, 1) := by decide +kernel
theorem dX7_upper_18 : decode cX7_upper 18 = .ok (.invokevirtual 324, 3) := by decide +kernel
theorem dX7_upper_21 : decode cX7_upper 21 = .ok (.iload_n 1, 1) := by decide +kernel
theorem dX7_upper_22 : decode cX7_upper 22 = .ok (.invokestatic 327, 3) := by decide +kernel
theorem dX7_upper_25 : decode cX7_upper 25 = .ok (.idiv, 1) := by decide +kernel
theorem dX7_upper_26 : decode cX7_upper 26 = .ok (.i2l, 1) := by decide +kernel
theorem dX7_upper_27 : decode cX7_upper 27 = .ok (.lreturn, 1) := by decide +kernel
theorem dX7_lower_0 : decode cX7_lower 0 = .ok (.aload_n 0, 1) := by decide +kernel
theorem dX7_lower_1 : decode cX7_lower 1 = .ok (.invokevirtual 321, 3) := by decide +kernel
theorem dX7_lower_4 : decode cX7_lower 4 = .ok (.istore_n 1, 1) := by decide +kernel
theorem dX7_lower_5 : decode cX7_lower 5 = .ok (.iload_n 1, 1) := by decide +kernel
theorem dX7_lower_6 : decode cX7_lower 6 = .ok (.ifCond .ne 7, 3) := by decide +kernel
theorem dX7_lower_9 : decode cX7_lower 9 = .ok (.lconst 1, 1) := by decide +kernel
theorem dX7_lower_10 : decode cX7_lower 10 = .ok (.goto 14, 3) := by decide +kernel
theorem dX7_lower_13 : decode cX7_lower 13 = .ok (.iload_n 1, 1) := by decide +kernel
theorem dX7_lower_14 : decode cX7_lower 14 = .ok (.aload_n 0, 1) := by decide +kernel
theorem dX7_lower_15 : decode cX7_lower 15 = .ok (.invokevirtual 324, 3) := by decide +kernel
theorem dX7_lower_18 : decode cX7_lower 18 = .ok (.iload_n 1, 1) := by decide +kernel
theorem dX7_lower_19 : decode cX7_lower 19 = .ok (.invokestatic 327, 3) := by decide +kernel
theorem dX7_lower_22 : decode cX7_lower 22 = .ok (.idiv, 1) := by decide +kernel
theorem dX7_lower_23 : decode cX7_lower 23 = .ok (.i2l, 1) := by decide +kernel
theorem dX7_lower_24 : decode cX7_lower 24 = .ok (.lreturn, 1) := by decide +kernel
theorem dX7_tells_0 : decode cX7_tells 0 = .ok (.iconst 0, 1) := by decide +kernel
theorem dX7_tells_1 : decode cX7_tells 1 = .ok (.istore_n 2, 1) := by decide +kernel
theorem dX7_tells_2 : decode cX7_tells 2 = .ok (.iconst 0, 1) := by decide +kernel
theorem dX7_tells_3 : decode cX7_tells 3 = .ok (.istore_n 3, 1) := by decide +kernel
theorem dX7_tells_4 : decode cX7_tells 4 = .ok (.iload_n 3, 1) := by decide +kernel
theorem dX7_tells_5 : decode cX7_tells 5 = .ok (.bipush 6, 2) := by decide +kernel
theorem dX7_tells_7 : decode cX7_tells 7 = .ok (.if_icmp .ge 120, 3) := by decide +kernel
theorem dX7_tells_10 : decode cX7_tells 10 = .ok (.iload_n 2, 1) := by decide +kernel
theorem dX7_tells_11 : decode cX7_tells 11 = .ok (.iload_n 1, 1) := by decide +kernel
theorem dX7_tells_12 : decode cX7_tells 12 = .ok (.iconst 3, 1) := by decide +kernel
theorem dX7_tells_13 : decode cX7_tells 13 = .ok (.if_icmp .ne 20, 3) := by decide +kernel
theorem dX7_tells_16 : decode cX7_tells 16 = .ok (.iload_n 3, 1) := by decide +kernel
theorem dX7_tells_17 : decode cX7_tells 17 = .ok (.aload_n 0, 1) := by decide +kernel
theorem dX7_tells_18 : decode cX7_tells 18 = .ok (.getfield 151, 3) := by decide +kernel
theorem dX7_tells_21 : decode cX7_tells 21 = .ok (.if_icmp .ge 12, 3) := by decide +kernel
theorem dX7_tells_24 : decode cX7_tells 24 = .ok (.aload_n 0, 1) := by decide +kernel
theorem dX7_tells_25 : decode cX7_tells 25 = .ok (.iload_n 3, 1) := by decide +kernel
theorem dX7_tells_26 : decode cX7_tells 26 = .ok (.iconst 1, 1) := by decide +kernel
theorem dX7_tells_27 : decode cX7_tells 27 = .ok (.invokevirtual 185, 3) := by decide +kernel
theorem dX7_tells_30 : decode cX7_tells 30 = .ok (.ifCond .ne 84, 3) := by decide +kernel
theorem dX7_tells_33 : decode cX7_tells 33 = .ok (.iload_n 1, 1) := by decide +kernel
theorem dX7_tells_34 : decode cX7_tells 34 = .ok (.iconst 4, 1) := by decide +kernel
theorem dX7_tells_35 : decode cX7_tells 35 = .ok (.if_icmp .ne 20, 3) := by decide +kernel
theorem dX7_tells_38 : decode cX7_tells 38 = .ok (.iload_n 3, 1) := by decide +kernel
theorem dX7_tells_39 : decode cX7_tells 39 = .ok (.aload_n 0, 1) := by decide +kernel
theorem dX7_tells_40 : decode cX7_tells 40 = .ok (.getfield 151, 3) := by decide +kernel
theorem dX7_tells_43 : decode cX7_tells 43 = .ok (.if_icmp .ge 12, 3) := by decide +kernel
theorem dX7_tells_46 : decode cX7_tells 46 = .ok (.aload_n 0, 1) := by decide +kernel
theorem dX7_tells_47 : decode cX7_tells 47 = .ok (.iload_n 3, 1) := by decide +kernel
theorem dX7_tells_48 : decode cX7_tells 48 = .ok (.iconst 2, 1) := by decide +kernel
theorem dX7_tells_49 : decode cX7_tells 49 = .ok (.invokevirtual 185, 3) := by decide +kernel
theorem dX7_tells_52 : decode cX7_tells 52 = .ok (.ifCond .ne 62, 3) := by decide +kernel
theorem dX7_tells_55 : decode cX7_tells 55 = .ok (.iload_n 1, 1) := by decide +kernel
theorem dX7_tells_56 : decode cX7_tells 56 = .ok (.iconst 5, 1) := by decide +kernel
theorem dX7_tells_57 : decode cX7_tells 57 = .ok (.if_icmp .ne 22, 3) := by decide +kernel
theorem dX7_tells_60 : decode cX7_tells 60 = .ok (.iload_n 3, 1) := by decide +kernel
theorem dX7_tells_61 : decode cX7_tells 61 = .ok (.iconst 3, 1) := by decide +kernel
theorem dX7_tells_62 : decode cX7_tells 62 = .ok (.if_icmp .ge 17, 3) := by decide +kernel
theorem dX7_tells_65 : decode cX7_tells 65 = .ok (.aload_n 0, 1) := by decide +kernel
theorem dX7_tells_66 : decode cX7_tells 66 = .ok (.getfield 55, 3) := by decide +kernel
theorem dX7_tells_69 : decode cX7_tells 69 = .ok (.bipush 32, 2) := by decide +kernel
theorem dX7_tells_71 : decode cX7_tells 71 = .ok (.iload_n 3, 1) := by decide +kernel
theorem dX7_tells_72 : decode cX7_tells 72 = .ok (.imul, 1) := by decide +kernel
theorem dX7_tells_73 : decode cX7_tells 73 = .ok (.iaload, 1) := by decide +kernel
theorem dX7_tells_74 : decode cX7_tells 74 = .ok (.bipush (-9), 2) := by decide +kernel
theorem dX7_tells_76 : decode cX7_tells 76 = .ok (.if_icmp .ne 38, 3) := by decide +kernel
theorem dX7_tells_79 : decode cX7_tells 79 = .ok (.iload_n 1, 1) := by decide +kernel
theorem dX7_tells_80 : decode cX7_tells 80 = .ok (.bipush 6, 2) := by decide +kernel
theorem dX7_tells_82 : decode cX7_tells 82 = .ok (.if_icmp .ne 12, 3) := by decide +kernel
theorem dX7_tells_85 : decode cX7_tells 85 = .ok (.aload_n 0, 1) := by decide +kernel
theorem dX7_tells_86 : decode cX7_tells 86 = .ok (.getfield 13, 3) := by decide +kernel
theorem dX7_tells_89 : decode cX7_tells 89 = .ok (.iload_n 3, 1) := by decide +kernel
theorem dX7_tells_90 : decode cX7_tells 90 = .ok (.iaload, 1) := by decide +kernel
theorem dX7_tells_91 : decode cX7_tells 91 = .ok (.ifCond .ge 23, 3) := by decide +kernel
theorem dX7_tells_94 : decode cX7_tells 94 = .ok (.iload_n 1, 1) := by decide +kernel
theorem dX7_tells_95 : decode cX7_tells 95 = .ok (.bipush 7, 2) := by decide +kernel
theorem dX7_tells_97 : decode cX7_tells 97 = .ok (.if_icmp .ne 21, 3) := by decide +kernel
theorem dX7_tells_100 : decode cX7_tells 100 = .ok (.iload_n 3, 1) := by decide +kernel
theorem dX7_tells_101 : decode cX7_tells 101 = .ok (.iconst 4, 1) := by decide +kernel
theorem dX7_tells_102 : decode cX7_tells 102 = .ok (.if_icmp .ge 16, 3) := by decide +kernel
theorem dX7_tells_105 : decode cX7_tells 105 = .ok (.aload_n 0, 1) := by decide +kernel
theorem dX7_tells_106 : decode cX7_tells 106 = .ok (.getfield 22, 3) := by decide +kernel
theorem dX7_tells_109 : decode cX7_tells 109 = .ok (.iload_n 3, 1) := by decide +kernel
theorem dX7_tells_110 : decode cX7_tells 110 = .ok (.iaload, 1) := by decide +kernel
theorem dX7_tells_111 : decode cX7_tells 111 = .ok (.ifCond .lt 7, 3) := by decide +kernel
theorem dX7_tells_114 : decode cX7_tells 114 = .ok (.iconst 1, 1) := by decide +kernel
theorem dX7_tells_115 : decode cX7_tells 115 = .ok (.goto 4, 3) := by decide +kernel
theorem dX7_tells_118 : decode cX7_tells 118 = .ok (.iconst 0, 1) := by decide +kernel
theorem dX7_tells_119 : decode cX7_tells 119 = .ok (.iadd, 1) := by decide +kernel
theorem dX7_tells_120 : decode cX7_tells 120 = .ok (.istore_n 2, 1) := by decide +kernel
theorem dX7_tells_121 : decode cX7_tells 121 = .ok (.iinc 3 1, 3) := by decide +kernel
theorem dX7_tells_124 : decode cX7_tells 124 = .ok (.goto (-120), 3) := by decide +kernel
theorem dX7_tells_127 : decode cX7_tells 127 = .ok (.iload_n 1, 1) := by decide +kernel
theorem dX7_tells_128 : decode cX7_tells 128 = .ok (.tableswitch 72 0 8 #[52, 57, 62, 72, 72, 72, 72, 72, 67], 52) := by decide +kernel
theorem dX7_tells_180 : decode cX7_tells 180 = .ok (.aload_n 0, 1) := by decide +kernel
theorem dX7_tells_181 : decode cX7_tells 181 = .ok (.getfield 151, 3) := by decide +kernel
theorem dX7_tells_184 : decode cX7_tells 184 = .ok (.ireturn, 1) := by decide +kernel
theorem dX7_tells_185 : decode cX7_tells 185 = .ok (.aload_n 0, 1) := by decide +kernel
theorem dX7_tells_186 : decode cX7_tells 186 = .ok (.getfield 154, 3) := by decide +kernel
theorem dX7_tells_189 : decode cX7_tells 189 = .ok (.ireturn, 1) := by decide +kernel
theorem dX7_tells_190 : decode cX7_tells 190 = .ok (.aload_n 0, 1) := by decide +kernel
theorem dX7_tells_191 : decode cX7_tells 191 = .ok (.getfield 160, 3) := by decide +kernel
theorem dX7_tells_194 : decode cX7_tells 194 = .ok (.ireturn, 1) := by decide +kernel
theorem dX7_tells_195 : decode cX7_tells 195 = .ok (.aload_n 0, 1) := by decide +kernel
theorem dX7_tells_196 : decode cX7_tells 196 = .ok (.invokevirtual 274, 3) := by decide +kernel
theorem dX7_tells_199 : decode cX7_tells 199 = .ok (.ireturn, 1) := by decide +kernel
theorem dX7_tells_200 : decode cX7_tells 200 = .ok (.iload_n 2, 1) := by decide +kernel
theorem dX7_tells_201 : decode cX7_tells 201 = .ok (.ireturn, 1) := by decide +kernel
theorem dX7_count_0 : decode cX7_count 0 = .ok (.iload_n 1, 1) := by decide +kernel
theorem dX7_count_1 : decode cX7_count 1 = .ok (.iconst 0, 1) := by decide +kernel
theorem dX7_count_2 : decode cX7_count 2 = .ok (.bipush 8, 2) := by decide +kernel
theorem dX7_count_4 : decode cX7_count 4 = .ok (.invokestatic 83, 3) := by decide +kernel
theorem dX7_count_7 : decode cX7_count 7 = .ok (.ifCond .eq 11, 3) := by decide +kernel
theorem dX7_count_10 : decode cX7_count 10 = .ok (.aload_n 0, 1) := by decide +kernel
theorem dX7_count_11 : decode cX7_count 11 = .ok (.iload_n 1, 1) := by decide +kernel
theorem dX7_count_12 : decode cX7_count 12 = .ok (.invokevirtual 330, 3) := by decide +kernel
theorem dX7_count_15 : decode cX7_count 15 = .ok (.goto 4, 3) := by decide +kernel
theorem dX7_count_18 : decode cX7_count 18 = .ok (.iconst (-1), 1) := by decide +kernel
theorem dX7_count_19 : decode cX7_count 19 = .ok (.ireturn, 1) := by decide +kernel
theorem dX7_finding_0 : decode cX7_finding 0 = .ok (.aload_n 0, 1) := by decide +kernel
theorem dX7_finding_1 : decode cX7_finding 1 = .ok (.getfield 76, 3) := by decide +kernel
theorem dX7_finding_4 : decode cX7_finding 4 = .ok (.ireturn, 1) := by decide +kernel
theorem dX7_findings_0 : decode cX7_findings 0 = .ok (.iload_n 1, 1) := by decide +kernel
theorem dX7_findings_1 : decode cX7_findings 1 = .ok (.iconst 1, 1) := by decide +kernel
theorem dX7_findings_2 : decode cX7_findings 2 = .ok (.iconst 5, 1) := by decide +kernel
theorem dX7_findings_3 : decode cX7_findings 3 = .ok (.invokestatic 83, 3) := by decide +kernel
theorem dX7_findings_6 : decode cX7_findings 6 = .ok (.ifCond .eq 12, 3) := by decide +kernel
theorem dX7_findings_9 : decode cX7_findings 9 = .ok (.aload_n 0, 1) := by decide +kernel
theorem dX7_findings_10 : decode cX7_findings 10 = .ok (.getfield 7, 3) := by decide +kernel
theorem dX7_findings_13 : decode cX7_findings 13 = .ok (.iload_n 1, 1) := by decide +kernel
theorem dX7_findings_14 : decode cX7_findings 14 = .ok (.iaload, 1) := by decide +kernel
theorem dX7_findings_15 : decode cX7_findings 15 = .ok (.goto 4, 3) := by decide +kernel
theorem dX7_findings_18 : decode cX7_findings 18 = .ok (.iconst (-1), 1) := by decide +kernel
theorem dX7_findings_19 : decode cX7_findings 19 = .ok (.ireturn, 1) := by decide +kernel
theorem dX7_mix_0 : decode cX7_mix 0 = .ok (.aload_n 0, 1) := by decide +kernel
theorem dX7_mix_1 : decode cX7_mix 1 = .ok (.ldc2_w 333, 3) := by decide +kernel
theorem dX7_mix_4 : decode cX7_mix 4 = .ok (.aload_n 0, 1) := by decide +kernel
theorem dX7_mix_5 : decode cX7_mix 5 = .ok (.getfield 335, 3) := by decide +kernel
theorem dX7_mix_8 : decode cX7_mix 8 = .ok (.lmul, 1) := by decide +kernel
theorem dX7_mix_9 : decode cX7_mix 9 = .ok (.iload_n 1, 1) := by decide +kernel
theorem dX7_mix_10 : decode cX7_mix 10 = .ok (.i2l, 1) := by decide +kernel
theorem dX7_mix_11 : decode cX7_mix 11 = .ok (.ladd, 1) := by decide +kernel
theorem dX7_mix_12 : decode cX7_mix 12 = .ok (.putfield 335, 3) := by decide +kernel
theorem dX7_mix_15 : decode cX7_mix 15 = .ok (.return_, 1) := by decide +kernel
theorem dX7_mixMarket_0 : decode cX7_mixMarket 0 = .ok (.aload_n 0, 1) := by decide +kernel
theorem dX7_mixMarket_1 : decode cX7_mixMarket 1 = .ok (.aload_n 0, 1) := by decide +kernel
theorem dX7_mixMarket_2 : decode cX7_mixMarket 2 = .ok (.getfield 151, 3) := by decide +kernel
theorem dX7_mixMarket_5 : decode cX7_mixMarket 5 = .ok (.ifCond .ne 7, 3) := by decide +kernel
theorem dX7_mixMarket_8 : decode cX7_mixMarket 8 = .ok (.iconst 0, 1) := by decide +kernel
theorem dX7_mixMarket_9 : decode cX7_mixMarket 9 = .ok (.goto 7, 3) := by decide +kernel
theorem dX7_mixMarket_12 : decode cX7_mixMarket 12 = .ok (.aload_n 0, 1) := by decide +kernel
theorem dX7_mixMarket_13 : decode cX7_mixMarket 13 = .ok (.getfield 157, 3) := by decide +kernel
theorem dX7_mixMarket_16 : decode cX7_mixMarket 16 = .ok (.invokevirtual 339, 3) := by decide +kernel
theorem dX7_mixMarket_19 : decode cX7_mixMarket 19 = .ok (.iconst 0, 1) := by decide +kernel
theorem dX7_mixMarket_20 : decode cX7_mixMarket 20 = .ok (.istore_n 1, 1) := by decide +kernel
theorem dX7_mixMarket_21 : decode cX7_mixMarket 21 = .ok (.iload_n 1, 1) := by decide +kernel
theorem dX7_mixMarket_22 : decode cX7_mixMarket 22 = .ok (.aload_n 0, 1) := by decide +kernel
theorem dX7_mixMarket_23 : decode cX7_mixMarket 23 = .ok (.getfield 151, 3) := by decide +kernel
theorem dX7_mixMarket_26 : decode cX7_mixMarket 26 = .ok (.if_icmp .ge 32, 3) := by decide +kernel
theorem dX7_mixMarket_29 : decode cX7_mixMarket 29 = .ok (.iconst 0, 1) := by decide +kernel
theorem dX7_mixMarket_30 : decode cX7_mixMarket 30 = .ok (.istore_n 2, 1) := by decide +kernel
theorem dX7_mixMarket_31 : decode cX7_mixMarket 31 = .ok (.iload_n 2, 1) := by decide +kernel
theorem dX7_mixMarket_32 : decode cX7_mixMarket 32 = .ok (.iconst 3, 1) := by decide +kernel
theorem dX7_mixMarket_33 : decode cX7_mixMarket 33 = .ok (.if_icmp .gt 19, 3) := by decide +kernel
theorem dX7_mixMarket_36 : decode cX7_mixMarket 36 = .ok (.aload_n 0, 1) := by decide +kernel
theorem dX7_mixMarket_37 : decode cX7_mixMarket 37 = .ok (.aload_n 0, 1) := by decide +kernel
theorem dX7_mixMarket_38 : decode cX7_mixMarket 38 = .ok (.iload_n 1, 1) := by decide +kernel
theorem dX7_mixMarket_39 : decode cX7_mixMarket 39 = .ok (.iload_n 2, 1) := by decide +kernel
theorem dX7_mixMarket_40 : decode cX7_mixMarket 40 = .ok (.invokevirtual 169, 3) := by decide +kernel
theorem dX7_mixMarket_43 : decode cX7_mixMarket 43 = .ok (.invokevirtual 339, 3) := by decide +kernel
theorem dX7_mixMarket_46 : decode cX7_mixMarket 46 = .ok (.iinc 2 1, 3) := by decide +kernel
theorem dX7_mixMarket_49 : decode cX7_mixMarket 49 = .ok (.goto (-18), 3) := by decide +kernel
theorem dX7_mixMarket_52 : decode cX7_mixMarket 52 = .ok (.iinc 1 1, 3) := by decide +kernel
theorem dX7_mixMarket_55 : decode cX7_mixMarket 55 = .ok (.goto (-34), 3) := by decide +kernel
theorem dX7_mixMarket_58 : decode cX7_mixMarket 58 = .ok (.iconst 0, 1) := by decide +kernel
theorem dX7_mixMarket_59 : decode cX7_mixMarket 59 = .ok (.istore_n 1, 1) := by decide +kernel
theorem dX7_mixMarket_60 : decode cX7_mixMarket 60 = .ok (.iload_n 1, 1) := by decide +kernel
theorem dX7_mixMarket_61 : decode cX7_mixMarket 61 = .ok (.aload_n 0, 1) := by decide +kernel
theorem dX7_mixMarket_62 : decode cX7_mixMarket 62 = .ok (.getfield 154, 3) := by decide +kernel
theorem dX7_mixMarket_65 : decode cX7_mixMarket 65 = .ok (.if_icmp .ge 32, 3) := by decide +kernel
theorem dX7_mixMarket_68 : decode cX7_mixMarket 68 = .ok (.iconst 0, 1) := by decide +kernel
theorem dX7_mixMarket_69 : decode cX7_mixMarket 69 = .ok (.istore_n 2, 1) := by decide +kernel
theorem dX7_mixMarket_70 : decode cX7_mixMarket 70 = .ok (.iload_n 2, 1) := by decide +kernel
theorem dX7_mixMarket_71 : decode cX7_mixMarket 71 = .ok (.iconst 3, 1) := by decide +kernel
theorem dX7_mixMarket_72 : decode cX7_mixMarket 72 = .ok (.if_icmp .gt 19, 3) := by decide +kernel
theorem dX7_mixMarket_75 : decode cX7_mixMarket 75 = .ok (.aload_n 0, 1) := by decide +kernel
theorem dX7_mixMarket_76 : decode cX7_mixMarket 76 = .ok (.aload_n 0, 1) := by decide +kernel
theorem dX7_mixMarket_77 : decode cX7_mixMarket 77 = .ok (.iload_n 1, 1) := by decide +kernel
theorem dX7_mixMarket_78 : decode cX7_mixMarket 78 = .ok (.iload_n 2, 1) := by decide +kernel
theorem dX7_mixMarket_79 : decode cX7_mixMarket 79 = .ok (.invokevirtual 175, 3) := by decide +kernel
theorem dX7_mixMarket_82 : decode cX7_mixMarket 82 = .ok (.invokevirtual 339, 3) := by decide +kernel
theorem dX7_mixMarket_85 : decode cX7_mixMarket 85 = .ok (.iinc 2 1, 3) := by decide +kernel
theorem dX7_mixMarket_88 : decode cX7_mixMarket 88 = .ok (.goto (-18), 3) := by decide +kernel
theorem dX7_mixMarket_91 : decode cX7_mixMarket 91 = .ok (.iinc 1 1, 3) := by decide +kernel
theorem dX7_mixMarket_94 : decode cX7_mixMarket 94 = .ok (.goto (-34), 3) := by decide +kernel
theorem dX7_mixMarket_97 : decode cX7_mixMarket 97 = .ok (.aload_n 0, 1) := by decide +kernel
theorem dX7_mixMarket_98 : decode cX7_mixMarket 98 = .ok (.aload_n 0, 1) := by decide +kernel
theorem dX7_mixMarket_99 : decode cX7_mixMarket 99 = .ok (.getfield 160, 3) := by decide +kernel
theorem dX7_mixMarket_102 : decode cX7_mixMarket 102 = .ok (.aload_n 0, 1) := by decide +kernel
theorem dX7_mixMarket_103 : decode cX7_mixMarket 103 = .ok (.getfield 163, 3) := by decide +kernel
theorem dX7_mixMarket_106 : decode cX7_mixMarket 106 = .ok (.isub, 1) := by decide +kernel
theorem dX7_mixMarket_107 : decode cX7_mixMarket 107 = .ok (.invokevirtual 339, 3) := by decide +kernel
theorem dX7_mixMarket_110 : decode cX7_mixMarket 110 = .ok (.iconst 0, 1) := by decide +kernel
theorem dX7_mixMarket_111 : decode cX7_mixMarket 111 = .ok (.istore_n 1, 1) := by decide +kernel
theorem dX7_mixMarket_112 : decode cX7_mixMarket 112 = .ok (.iload_n 1, 1) := by decide +kernel
theorem dX7_mixMarket_113 : decode cX7_mixMarket 113 = .ok (.iconst 3, 1) := by decide +kernel
theorem dX7_mixMarket_114 : decode cX7_mixMarket 114 = .ok (.if_icmp .ge 40, 3) := by decide +kernel
theorem dX7_mixMarket_117 : decode cX7_mixMarket 117 = .ok (.aload_n 0, 1) := by decide +kernel
theorem dX7_mixMarket_118 : decode cX7_mixMarket 118 = .ok (.aload_n 0, 1) := by decide +kernel
theorem dX7_mixMarket_119 : decode cX7_mixMarket 119 = .ok (.getfield 55, 3) := by decide +kernel
theorem dX7_mixMarket_122 : decode cX7_mixMarket 122 = .ok (.bipush 32, 2) := by decide +kernel
theorem dX7_mixMarket_124 : decode cX7_mixMarket 124 = .ok (.iload_n 1, 1) := by decide +kernel
theorem dX7_mixMarket_125 : decode cX7_mixMarket 125 = .ok (.imul, 1) := by decide +kernel
theorem dX7_mixMarket_126 : decode cX7_mixMarket 126 = .ok (.iaload, 1) := by decide +kernel
theorem dX7_mixMarket_127 : decode cX7_mixMarket 127 = .ok (.bipush (-9), 2) := by decide +kernel
theorem dX7_mixMarket_129 : decode cX7_mixMarket 129 = .ok (.if_icmp .ne 7, 3) := by decide +kernel
theorem dX7_mixMarket_132 : decode cX7_mixMarket 132 = .ok (.iconst (-1), 1) := by decide +kernel
theorem dX7_mixMarket_133 : decode cX7_mixMarket 133 = .ok (.goto 12, 3) := by decide +kernel
theorem dX7_mixMarket_136 : decode cX7_mixMarket 136 = .ok (.aload_n 0, 1) := by decide +kernel
theorem dX7_mixMarket_137 : decode cX7_mixMarket 137 = .ok (.getfield 55, 3) := by decide +kernel
theorem dX7_mixMarket_140 : decode cX7_mixMarket 140 = .ok (.bipush 32, 2) := by decide +kernel
theorem dX7_mixMarket_142 : decode cX7_mixMarket 142 = .ok (.iload_n 1, 1) := by decide +kernel
theorem dX7_mixMarket_143 : decode cX7_mixMarket 143 = .ok (.imul, 1) := by decide +kernel
theorem dX7_mixMarket_144 : decode cX7_mixMarket 144 = .ok (.iaload, 1) := by decide +kernel
theorem dX7_mixMarket_145 : decode cX7_mixMarket 145 = .ok (.invokevirtual 339, 3) := by decide +kernel
theorem dX7_mixMarket_148 : decode cX7_mixMarket 148 = .ok (.iinc 1 1, 3) := by decide +kernel
theorem dX7_mixMarket_151 : decode cX7_mixMarket 151 = .ok (.goto (-39), 3) := by decide +kernel
theorem dX7_mixMarket_154 : decode cX7_mixMarket 154 = .ok (.return_, 1) := by decide +kernel
theorem dX7_digest_0 : decode cX7_digest 0 = .ok (.aload_n 0, 1) := by decide +kernel
theorem dX7_digest_1 : decode cX7_digest 1 = .ok (.ldc2_w 342, 3) := by decide +kernel
theorem dX7_digest_4 : decode cX7_digest 4 = .ok (.putfield 335, 3) := by decide +kernel
theorem dX7_digest_7 : decode cX7_digest 7 = .ok (.iconst 0, 1) := by decide +kernel
theorem dX7_digest_8 : decode cX7_digest 8 = .ok (.istore_n 1, 1) := by decide +kernel
theorem dX7_digest_9 : decode cX7_digest 9 = .ok (.iload_n 1, 1) := by decide +kernel
theorem dX7_digest_10 : decode cX7_digest 10 = .ok (.bipush 8, 2) := by decide +kernel
theorem dX7_digest_12 : decode cX7_digest 12 = .ok (.if_icmp .gt 18, 3) := by decide +kernel
theorem dX7_digest_15 : decode cX7_digest 15 = .ok (.aload_n 0, 1) := by decide +kernel
theorem dX7_digest_16 : decode cX7_digest 16 = .ok (.aload_n 0, 1) := by decide +kernel
theorem dX7_digest_17 : decode cX7_digest 17 = .ok (.iload_n 1, 1) := by decide +kernel
theorem dX7_digest_18 : decode cX7_digest 18 = .ok (.invokevirtual 330, 3) := by decide +kernel
theorem dX7_digest_21 : decode cX7_digest 21 = .ok (.invokevirtual 339, 3) := by decide +kernel
theorem dX7_digest_24 : decode cX7_digest 24 = .ok (.iinc 1 1, 3) := by decide +kernel
theorem dX7_digest_27 : decode cX7_digest 27 = .ok (.goto (-18), 3) := by decide +kernel
theorem dX7_digest_30 : decode cX7_digest 30 = .ok (.aload_n 0, 1) := by decide +kernel
theorem dX7_digest_31 : decode cX7_digest 31 = .ok (.invokevirtual 344, 3) := by decide +kernel
theorem dX7_digest_34 : decode cX7_digest 34 = .ok (.iconst 0, 1) := by decide +kernel
theorem dX7_digest_35 : decode cX7_digest 35 = .ok (.istore_n 1, 1) := by decide +kernel
theorem dX7_digest_36 : decode cX7_digest 36 = .ok (.iload_n 1, 1) := by decide +kernel
theorem dX7_digest_37 : decode cX7_digest 37 = .ok (.bipush 6, 2) := by decide +kernel
theorem dX7_digest_39 : decode cX7_digest 39 = .ok (.if_icmp .ge 60, 3) := by decide +kernel
theorem dX7_digest_42 : decode cX7_digest 42 = .ok (.aload_n 0, 1) := by decide +kernel
theorem dX7_digest_43 : decode cX7_digest 43 = .ok (.aload_n 0, 1) := by decide +kernel
theorem dX7_digest_44 : decode cX7_digest 44 = .ok (.getfield 13, 3) := by decide +kernel
theorem dX7_digest_47 : decode cX7_digest 47 = .ok (.iload_n 1, 1) := by decide +kernel
theorem dX7_digest_48 : decode cX7_digest 48 = .ok (.iaload, 1) := by decide +kernel
theorem dX7_digest_49 : decode cX7_digest 49 = .ok (.ifCond .ge 7, 3) := by decide +kernel
theorem dX7_digest_52 : decode cX7_digest 52 = .ok (.iconst (-1), 1) := by decide +kernel
theorem dX7_digest_53 : decode cX7_digest 53 = .ok (.goto 9, 3) := by decide +kernel
theorem dX7_digest_56 : decode cX7_digest 56 = .ok (.aload_n 0, 1) := by decide +kernel
theorem dX7_digest_57 : decode cX7_digest 57 = .ok (.getfield 13, 3) := by decide +kernel
theorem dX7_digest_60 : decode cX7_digest 60 = .ok (.iload_n 1, 1) := by decide +kernel
theorem dX7_digest_61 : decode cX7_digest 61 = .ok (.iaload, 1) := by decide +kernel
theorem dX7_digest_62 : decode cX7_digest 62 = .ok (.invokevirtual 339, 3) := by decide +kernel
theorem dX7_digest_65 : decode cX7_digest 65 = .ok (.iconst 0, 1) := by decide +kernel
theorem dX7_digest_66 : decode cX7_digest 66 = .ok (.istore_n 2, 1) := by decide +kernel
theorem dX7_digest_67 : decode cX7_digest 67 = .ok (.iload_n 2, 1) := by decide +kernel
theorem dX7_digest_68 : decode cX7_digest 68 = .ok (.aload_n 0, 1) := by decide +kernel
theorem dX7_digest_69 : decode cX7_digest 69 = .ok (.getfield 13, 3) := by decide +kernel
theorem dX7_digest_72 : decode cX7_digest 72 = .ok (.iload_n 1, 1) := by decide +kernel
theorem dX7_digest_73 : decode cX7_digest 73 = .ok (.iaload, 1) := by decide +kernel
theorem dX7_digest_74 : decode cX7_digest 74 = .ok (.if_icmp .ge 19, 3) := by decide +kernel
theorem dX7_digest_77 : decode cX7_digest 77 = .ok (.aload_n 0, 1) := by decide +kernel
theorem dX7_digest_78 : decode cX7_digest 78 = .ok (.aload_n 0, 1) := by decide +kernel
theorem dX7_digest_79 : decode cX7_digest 79 = .ok (.iload_n 1, 1) := by decide +kernel
theorem dX7_digest_80 : decode cX7_digest 80 = .ok (.iload_n 2, 1) := by decide +kernel
theorem dX7_digest_81 : decode cX7_digest 81 = .ok (.invokevirtual 105, 3) := by decide +kernel
theorem dX7_digest_84 : decode cX7_digest 84 = .ok (.invokevirtual 339, 3) := by decide +kernel
theorem dX7_digest_87 : decode cX7_digest 87 = .ok (.iinc 2 1, 3) := by decide +kernel
theorem dX7_digest_90 : decode cX7_digest 90 = .ok (.goto (-23), 3) := by decide +kernel
theorem dX7_digest_93 : decode cX7_digest 93 = .ok (.iinc 1 1, 3) := by decide +kernel
theorem dX7_digest_96 : decode cX7_digest 96 = .ok (.goto (-60), 3) := by decide +kernel
theorem dX7_digest_99 : decode cX7_digest 99 = .ok (.iconst 0, 1) := by decide +kernel
theorem dX7_digest_100 : decode cX7_digest 100 = .ok (.istore_n 1, 1) := by decide +kernel
theorem dX7_digest_101 : decode cX7_digest 101 = .ok (.iload_n 1, 1) := by decide +kernel
theorem dX7_digest_102 : decode cX7_digest 102 = .ok (.iconst 4, 1) := by decide +kernel
theorem dX7_digest_103 : decode cX7_digest 103 = .ok (.if_icmp .ge 65, 3) := by decide +kernel
theorem dX7_digest_106 : decode cX7_digest 106 = .ok (.aload_n 0, 1) := by decide +kernel
theorem dX7_digest_107 : decode cX7_digest 107 = .ok (.aload_n 0, 1) := by decide +kernel
theorem dX7_digest_108 : decode cX7_digest 108 = .ok (.getfield 22, 3) := by decide +kernel
theorem dX7_digest_111 : decode cX7_digest 111 = .ok (.iload_n 1, 1) := by decide +kernel
theorem dX7_digest_112 : decode cX7_digest 112 = .ok (.iaload, 1) := by decide +kernel
theorem dX7_digest_113 : decode cX7_digest 113 = .ok (.ifCond .ge 7, 3) := by decide +kernel
theorem dX7_digest_116 : decode cX7_digest 116 = .ok (.iconst (-1), 1) := by decide +kernel
theorem dX7_digest_117 : decode cX7_digest 117 = .ok (.goto 9, 3) := by decide +kernel
theorem dX7_digest_120 : decode cX7_digest 120 = .ok (.aload_n 0, 1) := by decide +kernel
theorem dX7_digest_121 : decode cX7_digest 121 = .ok (.getfield 22, 3) := by decide +kernel
theorem dX7_digest_124 : decode cX7_digest 124 = .ok (.iload_n 1, 1) := by decide +kernel
theorem dX7_digest_125 : decode cX7_digest 125 = .ok (.iaload, 1) := by decide +kernel
theorem dX7_digest_126 : decode cX7_digest 126 = .ok (.invokevirtual 339, 3) := by decide +kernel
theorem dX7_digest_129 : decode cX7_digest 129 = .ok (.iconst 0, 1) := by decide +kernel
theorem dX7_digest_130 : decode cX7_digest 130 = .ok (.istore_n 2, 1) := by decide +kernel
theorem dX7_digest_131 : decode cX7_digest 131 = .ok (.iload_n 2, 1) := by decide +kernel
theorem dX7_digest_132 : decode cX7_digest 132 = .ok (.aload_n 0, 1) := by decide +kernel
theorem dX7_digest_133 : decode cX7_digest 133 = .ok (.getfield 22, 3) := by decide +kernel
theorem dX7_digest_136 : decode cX7_digest 136 = .ok (.iload_n 1, 1) := by decide +kernel
theorem dX7_digest_137 : decode cX7_digest 137 = .ok (.iaload, 1) := by decide +kernel
theorem dX7_digest_138 : decode cX7_digest 138 = .ok (.if_icmp .ge 24, 3) := by decide +kernel
theorem dX7_digest_141 : decode cX7_digest 141 = .ok (.aload_n 0, 1) := by decide +kernel
theorem dX7_digest_142 : decode cX7_digest 142 = .ok (.aload_n 0, 1) := by decide +kernel
theorem dX7_digest_143 : decode cX7_digest 143 = .ok (.getfield 25, 3) := by decide +kernel
theorem dX7_digest_146 : decode cX7_digest 146 = .ok (.bipush 80, 2) := by decide +kernel
theorem dX7_digest_148 : decode cX7_digest 148 = .ok (.iload_n 1, 1) := by decide +kernel
theorem dX7_digest_149 : decode cX7_digest 149 = .ok (.imul, 1) := by decide +kernel
theorem dX7_digest_150 : decode cX7_digest 150 = .ok (.iload_n 2, 1) := by decide +kernel
theorem dX7_digest_151 : decode cX7_digest 151 = .ok (.iadd, 1) := by decide +kernel
theorem dX7_digest_152 : decode cX7_digest 152 = .ok (.iaload, 1) := by decide +kernel
theorem dX7_digest_153 : decode cX7_digest 153 = .ok (.invokevirtual 339, 3) := by decide +kernel
theorem dX7_digest_156 : decode cX7_digest 156 = .ok (.iinc 2 1, 3) := by decide +kernel
theorem dX7_digest_159 : decode cX7_digest 159 = .ok (.goto (-28), 3) := by decide +kernel
theorem dX7_digest_162 : decode cX7_digest 162 = .ok (.iinc 1 1, 3) := by decide +kernel
theorem dX7_digest_165 : decode cX7_digest 165 = .ok (.goto (-64), 3) := by decide +kernel
theorem dX7_digest_168 : decode cX7_digest 168 = .ok (.aload_n 0, 1) := by decide +kernel
theorem dX7_digest_169 : decode cX7_digest 169 = .ok (.getfield 335, 3) := by decide +kernel
theorem dX7_digest_172 : decode cX7_digest 172 = .ok (.lreturn, 1) := by decide +kernel
theorem dJ6_bitCount_0f7a4_0 : decode cJ6_bitCount_0f7a4 0 = .ok (.iload_n 0, 1) := by decide +kernel
theorem dJ6_bitCount_0f7a4_1 : decode cJ6_bitCount_0f7a4 1 = .ok (.iload_n 0, 1) := by decide +kernel
theorem dJ6_bitCount_0f7a4_2 : decode cJ6_bitCount_0f7a4 2 = .ok (.iconst 1, 1) := by decide +kernel
theorem dJ6_bitCount_0f7a4_3 : decode cJ6_bitCount_0f7a4 3 = .ok (.iushr, 1) := by decide +kernel
theorem dJ6_bitCount_0f7a4_4 : decode cJ6_bitCount_0f7a4 4 = .ok (.ldc_w 265, 3) := by decide +kernel
theorem dJ6_bitCount_0f7a4_7 : decode cJ6_bitCount_0f7a4 7 = .ok (.iand, 1) := by decide +kernel
theorem dJ6_bitCount_0f7a4_8 : decode cJ6_bitCount_0f7a4 8 = .ok (.isub, 1) := by decide +kernel
theorem dJ6_bitCount_0f7a4_9 : decode cJ6_bitCount_0f7a4 9 = .ok (.istore_n 0, 1) := by decide +kernel
theorem dJ6_bitCount_0f7a4_10 : decode cJ6_bitCount_0f7a4 10 = .ok (.iload_n 0, 1) := by decide +kernel
theorem dJ6_bitCount_0f7a4_11 : decode cJ6_bitCount_0f7a4 11 = .ok (.ldc_w 266, 3) := by decide +kernel
theorem dJ6_bitCount_0f7a4_14 : decode cJ6_bitCount_0f7a4 14 = .ok (.iand, 1) := by decide +kernel
theorem dJ6_bitCount_0f7a4_15 : decode cJ6_bitCount_0f7a4 15 = .ok (.iload_n 0, 1) := by decide +kernel
theorem dJ6_bitCount_0f7a4_16 : decode cJ6_bitCount_0f7a4 16 = .ok (.iconst 2, 1) := by decide +kernel
theorem dJ6_bitCount_0f7a4_17 : decode cJ6_bitCount_0f7a4 17 = .ok (.iushr, 1) := by decide +kernel
theorem dJ6_bitCount_0f7a4_18 : decode cJ6_bitCount_0f7a4 18 = .ok (.ldc_w 266, 3) := by decide +kernel
theorem dJ6_bitCount_0f7a4_21 : decode cJ6_bitCount_0f7a4 21 = .ok (.iand, 1) := by decide +kernel
theorem dJ6_bitCount_0f7a4_22 : decode cJ6_bitCount_0f7a4 22 = .ok (.iadd, 1) := by decide +kernel
theorem dJ6_bitCount_0f7a4_23 : decode cJ6_bitCount_0f7a4 23 = .ok (.istore_n 0, 1) := by decide +kernel
theorem dJ6_bitCount_0f7a4_24 : decode cJ6_bitCount_0f7a4 24 = .ok (.iload_n 0, 1) := by decide +kernel
theorem dJ6_bitCount_0f7a4_25 : decode cJ6_bitCount_0f7a4 25 = .ok (.iload_n 0, 1) := by decide +kernel
theorem dJ6_bitCount_0f7a4_26 : decode cJ6_bitCount_0f7a4 26 = .ok (.iconst 4, 1) := by decide +kernel
theorem dJ6_bitCount_0f7a4_27 : decode cJ6_bitCount_0f7a4 27 = .ok (.iushr, 1) := by decide +kernel
theorem dJ6_bitCount_0f7a4_28 : decode cJ6_bitCount_0f7a4 28 = .ok (.iadd, 1) := by decide +kernel
theorem dJ6_bitCount_0f7a4_29 : decode cJ6_bitCount_0f7a4 29 = .ok (.ldc_w 267, 3) := by decide +kernel
theorem dJ6_bitCount_0f7a4_32 : decode cJ6_bitCount_0f7a4 32 = .ok (.iand, 1) := by decide +kernel
theorem dJ6_bitCount_0f7a4_33 : decode cJ6_bitCount_0f7a4 33 = .ok (.istore_n 0, 1) := by decide +kernel
theorem dJ6_bitCount_0f7a4_34 : decode cJ6_bitCount_0f7a4 34 = .ok (.iload_n 0, 1) := by decide +kernel
theorem dJ6_bitCount_0f7a4_35 : decode cJ6_bitCount_0f7a4 35 = .ok (.iload_n 0, 1) := by decide +kernel
theorem dJ6_bitCount_0f7a4_36 : decode cJ6_bitCount_0f7a4 36 = .ok (.bipush 8, 2) := by decide +kernel
theorem dJ6_bitCount_0f7a4_38 : decode cJ6_bitCount_0f7a4 38 = .ok (.iushr, 1) := by decide +kernel
theorem dJ6_bitCount_0f7a4_39 : decode cJ6_bitCount_0f7a4 39 = .ok (.iadd, 1) := by decide +kernel
theorem dJ6_bitCount_0f7a4_40 : decode cJ6_bitCount_0f7a4 40 = .ok (.istore_n 0, 1) := by decide +kernel
theorem dJ6_bitCount_0f7a4_41 : decode cJ6_bitCount_0f7a4 41 = .ok (.iload_n 0, 1) := by decide +kernel
theorem dJ6_bitCount_0f7a4_42 : decode cJ6_bitCount_0f7a4 42 = .ok (.iload_n 0, 1) := by decide +kernel
theorem dJ6_bitCount_0f7a4_43 : decode cJ6_bitCount_0f7a4 43 = .ok (.bipush 16, 2) := by decide +kernel
theorem dJ6_bitCount_0f7a4_45 : decode cJ6_bitCount_0f7a4 45 = .ok (.iushr, 1) := by decide +kernel
theorem dJ6_bitCount_0f7a4_46 : decode cJ6_bitCount_0f7a4 46 = .ok (.iadd, 1) := by decide +kernel
theorem dJ6_bitCount_0f7a4_47 : decode cJ6_bitCount_0f7a4 47 = .ok (.istore_n 0, 1) := by decide +kernel
theorem dJ6_bitCount_0f7a4_48 : decode cJ6_bitCount_0f7a4 48 = .ok (.iload_n 0, 1) := by decide +kernel
theorem dJ6_bitCount_0f7a4_49 : decode cJ6_bitCount_0f7a4 49 = .ok (.bipush 63, 2) := by decide +kernel
theorem dJ6_bitCount_0f7a4_51 : decode cJ6_bitCount_0f7a4 51 = .ok (.iand, 1) := by decide +kernel
theorem dJ6_bitCount_0f7a4_52 : decode cJ6_bitCount_0f7a4 52 = .ok (.ireturn, 1) := by decide +kernel
theorem dJ9_abs_0f7a4_0 : decode cJ9_abs_0f7a4 0 = .ok (.iload_n 0, 1) := by decide +kernel
theorem dJ9_abs_0f7a4_1 : decode cJ9_abs_0f7a4 1 = .ok (.ifCond .ge 8, 3) := by decide +kernel
theorem dJ9_abs_0f7a4_4 : decode cJ9_abs_0f7a4 4 = .ok (.iload_n 0, 1) := by decide +kernel
theorem dJ9_abs_0f7a4_5 : decode cJ9_abs_0f7a4 5 = .ok (.ineg, 1) := by decide +kernel
theorem dJ9_abs_0f7a4_6 : decode cJ9_abs_0f7a4 6 = .ok (.goto 4, 3) := by decide +kernel
theorem dJ9_abs_0f7a4_9 : decode cJ9_abs_0f7a4 9 = .ok (.iload_n 0, 1) := by decide +kernel
theorem dJ9_abs_0f7a4_10 : decode cJ9_abs_0f7a4 10 = .ok (.ireturn, 1) := by decide +kernel
theorem dJ9_max_f86c9_0 : decode cJ9_max_f86c9 0 = .ok (.lload_n 0, 1) := by decide +kernel
theorem dJ9_max_f86c9_1 : decode cJ9_max_f86c9 1 = .ok (.lload_n 2, 1) := by decide +kernel
theorem dJ9_max_f86c9_2 : decode cJ9_max_f86c9 2 = .ok (.lcmp, 1) := by decide +kernel
theorem dJ9_max_f86c9_3 : decode cJ9_max_f86c9 3 = .ok (.ifCond .lt 7, 3) := by decide +kernel
theorem dJ9_max_f86c9_6 : decode cJ9_max_f86c9 6 = .ok (.lload_n 0, 1) := by decide +kernel
theorem dJ9_max_f86c9_7 : decode cJ9_max_f86c9 7 = .ok (.goto 4, 3) := by decide +kernel
theorem dJ9_max_f86c9_10 : decode cJ9_max_f86c9 10 = .ok (.lload_n 2, 1) := by decide +kernel
theorem dJ9_max_f86c9_11 : decode cJ9_max_f86c9 11 = .ok (.lreturn, 1) := by decide +kernel
theorem dL_law_0 : decode cL_law 0 = .ok (.new 7, 3) := by decide +kernel
theorem dL_law_3 : decode cL_law 3 = .ok (.dup, 1) := by decide +kernel
theorem dL_law_4 : decode cL_law 4 = .ok (.invokespecial 9, 3) := by decide +kernel
theorem dL_law_7 : decode cL_law 7 = .ok (.astore_n 1, 1) := by decide +kernel
theorem dL_law_8 : decode cL_law 8 = .ok (.new 10, 3) := by decide +kernel
theorem dL_law_11 : decode cL_law 11 = .ok (.dup, 1) := by decide +kernel
theorem dL_law_12 : decode cL_law 12 = .ok (.invokespecial 12, 3) := by decide +kernel
theorem dL_law_15 : decode cL_law 15 = .ok (.astore_n 2, 1) := by decide +kernel
theorem dL_law_16 : decode cL_law 16 = .ok (.iconst 0, 1) := by decide +kernel
theorem dL_law_17 : decode cL_law 17 = .ok (.istore_n 3, 1) := by decide +kernel
theorem dL_law_18 : decode cL_law 18 = .ok (.iload_n 3, 1) := by decide +kernel
theorem dL_law_19 : decode cL_law 19 = .ok (.aload_n 0, 1) := by decide +kernel
theorem dL_law_20 : decode cL_law 20 = .ok (.arraylength, 1) := by decide +kernel
theorem dL_law_21 : decode cL_law 21 = .ok (.bipush 6, 2) := by decide +kernel
theorem dL_law_23 : decode cL_law 23 = .ok (.isub, 1) := by decide +kernel
theorem dL_law_24 : decode cL_law 24 = .ok (.if_icmp .gt 1317, 3) := by decide +kernel
theorem dL_law_27 : decode cL_law 27 = .ok (.aload_n 0, 1) := by decide +kernel
theorem dL_law_28 : decode cL_law 28 = .ok (.iload_n 3, 1) := by decide +kernel
theorem dL_law_29 : decode cL_law 29 = .ok (.iaload, 1) := by decide +kernel
theorem dL_law_30 : decode cL_law 30 = .ok (.bipush 63, 2) := by decide +kernel
theorem dL_law_32 : decode cL_law 32 = .ok (.iand, 1) := by decide +kernel
theorem dL_law_33 : decode cL_law 33 = .ok (.tableswitch 1302 0 41 #[183, 216, 259, 292, 315, 378, 401, 434, 477, 500, 523, 556, 589, 622, 655, 688, 711, 734, 757, 780, 793, 806, 829, 852, 875, 898, 911, 944, 977, 1010, 1033, 1046, 1059, 1102, 1155, 1188, 1201, 1215, 1229, 1252, 1265, 1288], 183) := by decide +kernel
theorem dL_law_216 : decode cL_law 216 = .ok (.aload_n 1, 1) := by decide +kernel
theorem dL_law_217 : decode cL_law 217 = .ok (.aload_n 0, 1) := by decide +kernel
theorem dL_law_218 : decode cL_law 218 = .ok (.iload_n 3, 1) := by decide +kernel
theorem dL_law_219 : decode cL_law 219 = .ok (.iconst 1, 1) := by decide +kernel
theorem dL_law_220 : decode cL_law 220 = .ok (.iadd, 1) := by decide +kernel
theorem dL_law_221 : decode cL_law 221 = .ok (.iaload, 1) := by decide +kernel
theorem dL_law_222 : decode cL_law 222 = .ok (.aload_n 0, 1) := by decide +kernel
theorem dL_law_223 : decode cL_law 223 = .ok (.iload_n 3, 1) := by decide +kernel
theorem dL_law_224 : decode cL_law 224 = .ok (.iconst 2, 1) := by decide +kernel
theorem dL_law_225 : decode cL_law 225 = .ok (.iadd, 1) := by decide +kernel
theorem dL_law_226 : decode cL_law 226 = .ok (.iaload, 1) := by decide +kernel
theorem dL_law_227 : decode cL_law 227 = .ok (.invokevirtual 13, 3) := by decide +kernel
theorem dL_law_230 : decode cL_law 230 = .ok (.aload_n 2, 1) := by decide +kernel
theorem dL_law_231 : decode cL_law 231 = .ok (.aload_n 0, 1) := by decide +kernel
theorem dL_law_232 : decode cL_law 232 = .ok (.iload_n 3, 1) := by decide +kernel
theorem dL_law_233 : decode cL_law 233 = .ok (.iconst 1, 1) := by decide +kernel
theorem dL_law_234 : decode cL_law 234 = .ok (.iadd, 1) := by decide +kernel
theorem dL_law_235 : decode cL_law 235 = .ok (.iaload, 1) := by decide +kernel
theorem dL_law_236 : decode cL_law 236 = .ok (.aload_n 0, 1) := by decide +kernel
theorem dL_law_237 : decode cL_law 237 = .ok (.iload_n 3, 1) := by decide +kernel
theorem dL_law_238 : decode cL_law 238 = .ok (.iconst 2, 1) := by decide +kernel
theorem dL_law_239 : decode cL_law 239 = .ok (.iadd, 1) := by decide +kernel
theorem dL_law_240 : decode cL_law 240 = .ok (.iaload, 1) := by decide +kernel
theorem dL_law_241 : decode cL_law 241 = .ok (.invokevirtual 17, 3) := by decide +kernel
theorem dL_law_244 : decode cL_law 244 = .ok (.if_icmp .eq 1091, 3) := by decide +kernel
theorem dL_law_247 : decode cL_law 247 = .ok (.iconst 0, 1) := by decide +kernel
theorem dL_law_248 : decode cL_law 248 = .ok (.ireturn, 1) := by decide +kernel
theorem dL_law_249 : decode cL_law 249 = .ok (.aload_n 1, 1) := by decide +kernel
theorem dL_law_250 : decode cL_law 250 = .ok (.aload_n 0, 1) := by decide +kernel
theorem dL_law_251 : decode cL_law 251 = .ok (.iload_n 3, 1) := by decide +kernel
theorem dL_law_252 : decode cL_law 252 = .ok (.iconst 1, 1) := by decide +kernel
theorem dL_law_253 : decode cL_law 253 = .ok (.iadd, 1) := by decide +kernel
theorem dL_law_254 : decode cL_law 254 = .ok (.iaload, 1) := by decide +kernel
theorem dL_law_255 : decode cL_law 255 = .ok (.aload_n 0, 1) := by decide +kernel
theorem dL_law_256 : decode cL_law 256 = .ok (.iload_n 3, 1) := by decide +kernel
theorem dL_law_257 : decode cL_law 257 = .ok (.iconst 2, 1) := by decide +kernel
theorem dL_law_258 : decode cL_law 258 = .ok (.iadd, 1) := by decide +kernel
theorem dL_law_259 : decode cL_law 259 = .ok (.iaload, 1) := by decide +kernel
theorem dL_law_260 : decode cL_law 260 = .ok (.aload_n 0, 1) := by decide +kernel
theorem dL_law_261 : decode cL_law 261 = .ok (.iload_n 3, 1) := by decide +kernel
theorem dL_law_262 : decode cL_law 262 = .ok (.iconst 3, 1) := by decide +kernel
theorem dL_law_263 : decode cL_law 263 = .ok (.iadd, 1) := by decide +kernel
theorem dL_law_264 : decode cL_law 264 = .ok (.iaload, 1) := by decide +kernel
theorem dL_law_265 : decode cL_law 265 = .ok (.invokevirtual 18, 3) := by decide +kernel
theorem dL_law_268 : decode cL_law 268 = .ok (.aload_n 2, 1) := by decide +kernel
theorem dL_law_269 : decode cL_law 269 = .ok (.aload_n 0, 1) := by decide +kernel
theorem dL_law_270 : decode cL_law 270 = .ok (.iload_n 3, 1) := by decide +kernel
theorem dL_law_271 : decode cL_law 271 = .ok (.iconst 1, 1) := by decide +kernel
theorem dL_law_272 : decode cL_law 272 = .ok (.iadd, 1) := by decide +kernel
theorem dL_law_273 : decode cL_law 273 = .ok (.iaload, 1) := by decide +kernel
theorem dL_law_274 : decode cL_law 274 = .ok (.aload_n 0, 1) := by decide +kernel
theorem dL_law_275 : decode cL_law 275 = .ok (.iload_n 3, 1) := by decide +kernel
theorem dL_law_276 : decode cL_law 276 = .ok (.iconst 2, 1) := by decide +kernel
theorem dL_law_277 : decode cL_law 277 = .ok (.iadd, 1) := by decide +kernel
theorem dL_law_278 : decode cL_law 278 = .ok (.iaload, 1) := by decide +kernel
theorem dL_law_279 : decode cL_law 279 = .ok (.aload_n 0, 1) := by decide +kernel
theorem dL_law_280 : decode cL_law 280 = .ok (.iload_n 3, 1) := by decide +kernel
theorem dL_law_281 : decode cL_law 281 = .ok (.iconst 3, 1) := by decide +kernel
theorem dL_law_282 : decode cL_law 282 = .ok (.iadd, 1) := by decide +kernel
theorem dL_law_283 : decode cL_law 283 = .ok (.iaload, 1) := by decide +kernel
theorem dL_law_284 : decode cL_law 284 = .ok (.invokevirtual 22, 3) := by decide +kernel
theorem dL_law_287 : decode cL_law 287 = .ok (.if_icmp .eq 1048, 3) := by decide +kernel
theorem dL_law_290 : decode cL_law 290 = .ok (.iconst 0, 1) := by decide +kernel
theorem dL_law_291 : decode cL_law 291 = .ok (.ireturn, 1) := by decide +kernel
theorem dL_law_292 : decode cL_law 292 = .ok (.aload_n 1, 1) := by decide +kernel
theorem dL_law_293 : decode cL_law 293 = .ok (.aload_n 0, 1) := by decide +kernel
theorem dL_law_294 : decode cL_law 294 = .ok (.iload_n 3, 1) := by decide +kernel
theorem dL_law_295 : decode cL_law 295 = .ok (.iconst 1, 1) := by decide +kernel
theorem dL_law_296 : decode cL_law 296 = .ok (.iadd, 1) := by decide +kernel
theorem dL_law_297 : decode cL_law 297 = .ok (.iaload, 1) := by decide +kernel
theorem dL_law_298 : decode cL_law 298 = .ok (.aload_n 0, 1) := by decide +kernel
theorem dL_law_299 : decode cL_law 299 = .ok (.iload_n 3, 1) := by decide +kernel
theorem dL_law_300 : decode cL_law 300 = .ok (.iconst 2, 1) := by decide +kernel
theorem dL_law_301 : decode cL_law 301 = .ok (.iadd, 1) := by decide +kernel
theorem dL_law_302 : decode cL_law 302 = .ok (.iaload, 1) := by decide +kernel
theorem dL_law_303 : decode cL_law 303 = .ok (.invokevirtual 23, 3) := by decide +kernel
theorem dL_law_306 : decode cL_law 306 = .ok (.aload_n 2, 1) := by decide +kernel
theorem dL_law_307 : decode cL_law 307 = .ok (.aload_n 0, 1) := by decide +kernel
theorem dL_law_308 : decode cL_law 308 = .ok (.iload_n 3, 1) := by decide +kernel
theorem dL_law_309 : decode cL_law 309 = .ok (.iconst 1, 1) := by decide +kernel
theorem dL_law_310 : decode cL_law 310 = .ok (.iadd, 1) := by decide +kernel
theorem dL_law_311 : decode cL_law 311 = .ok (.iaload, 1) := by decide +kernel
theorem dL_law_312 : decode cL_law 312 = .ok (.aload_n 0, 1) := by decide +kernel
theorem dL_law_313 : decode cL_law 313 = .ok (.iload_n 3, 1) := by decide +kernel
theorem dL_law_314 : decode cL_law 314 = .ok (.iconst 2, 1) := by decide +kernel
theorem dL_law_315 : decode cL_law 315 = .ok (.iadd, 1) := by decide +kernel
theorem dL_law_316 : decode cL_law 316 = .ok (.iaload, 1) := by decide +kernel
theorem dL_law_317 : decode cL_law 317 = .ok (.invokevirtual 26, 3) := by decide +kernel
theorem dL_law_320 : decode cL_law 320 = .ok (.if_icmp .eq 1015, 3) := by decide +kernel
theorem dL_law_323 : decode cL_law 323 = .ok (.iconst 0, 1) := by decide +kernel
theorem dL_law_324 : decode cL_law 324 = .ok (.ireturn, 1) := by decide +kernel
theorem dL_law_325 : decode cL_law 325 = .ok (.aload_n 1, 1) := by decide +kernel
theorem dL_law_326 : decode cL_law 326 = .ok (.aload_n 0, 1) := by decide +kernel
theorem dL_law_327 : decode cL_law 327 = .ok (.iload_n 3, 1) := by decide +kernel
theorem dL_law_328 : decode cL_law 328 = .ok (.iconst 1, 1) := by decide +kernel
theorem dL_law_329 : decode cL_law 329 = .ok (.iadd, 1) := by decide +kernel
theorem dL_law_330 : decode cL_law 330 = .ok (.iaload, 1) := by decide +kernel
theorem dL_law_331 : decode cL_law 331 = .ok (.invokevirtual 27, 3) := by decide +kernel
theorem dL_law_334 : decode cL_law 334 = .ok (.aload_n 2, 1) := by decide +kernel
theorem dL_law_335 : decode cL_law 335 = .ok (.aload_n 0, 1) := by decide +kernel
theorem dL_law_336 : decode cL_law 336 = .ok (.iload_n 3, 1) := by decide +kernel
theorem dL_law_337 : decode cL_law 337 = .ok (.iconst 1, 1) := by decide +kernel
theorem dL_law_338 : decode cL_law 338 = .ok (.iadd, 1) := by decide +kernel
theorem dL_law_339 : decode cL_law 339 = .ok (.iaload, 1) := by decide +kernel
theorem dL_law_340 : decode cL_law 340 = .ok (.invokevirtual 31, 3) := by decide +kernel
theorem dL_law_343 : decode cL_law 343 = .ok (.if_icmp .eq 992, 3) := by decide +kernel
theorem dL_law_346 : decode cL_law 346 = .ok (.iconst 0, 1) := by decide +kernel
theorem dL_law_347 : decode cL_law 347 = .ok (.ireturn, 1) := by decide +kernel
theorem dL_law_348 : decode cL_law 348 = .ok (.aload_n 1, 1) := by decide +kernel
theorem dL_law_349 : decode cL_law 349 = .ok (.aload_n 0, 1) := by decide +kernel
theorem dL_law_350 : decode cL_law 350 = .ok (.iload_n 3, 1) := by decide +kernel
theorem dL_law_351 : decode cL_law 351 = .ok (.iconst 1, 1) := by decide +kernel
theorem dL_law_352 : decode cL_law 352 = .ok (.iadd, 1) := by decide +kernel
theorem dL_law_353 : decode cL_law 353 = .ok (.iaload, 1) := by decide +kernel
theorem dL_law_354 : decode cL_law 354 = .ok (.aload_n 0, 1) := by decide +kernel
theorem dL_law_355 : decode cL_law 355 = .ok (.iload_n 3, 1) := by decide +kernel
theorem dL_law_356 : decode cL_law 356 = .ok (.iconst 2, 1) := by decide +kernel
theorem dL_law_357 : decode cL_law 357 = .ok (.iadd, 1) := by decide +kernel
theorem dL_law_358 : decode cL_law 358 = .ok (.iaload, 1) := by decide +kernel
theorem dL_law_359 : decode cL_law 359 = .ok (.aload_n 0, 1) := by decide +kernel
theorem dL_law_360 : decode cL_law 360 = .ok (.iload_n 3, 1) := by decide +kernel
theorem dL_law_361 : decode cL_law 361 = .ok (.iconst 3, 1) := by decide +kernel
theorem dL_law_362 : decode cL_law 362 = .ok (.iadd, 1) := by decide +kernel
theorem dL_law_363 : decode cL_law 363 = .ok (.iaload, 1) := by decide +kernel
theorem dL_law_364 : decode cL_law 364 = .ok (.aload_n 0, 1) := by decide +kernel
theorem dL_law_365 : decode cL_law 365 = .ok (.iload_n 3, 1) := by decide +kernel
theorem dL_law_366 : decode cL_law 366 = .ok (.iconst 4, 1) := by decide +kernel
theorem dL_law_367 : decode cL_law 367 = .ok (.iadd, 1) := by decide +kernel
theorem dL_law_368 : decode cL_law 368 = .ok (.iaload, 1) := by decide +kernel
theorem dL_law_369 : decode cL_law 369 = .ok (.aload_n 0, 1) := by decide +kernel
theorem dL_law_370 : decode cL_law 370 = .ok (.iload_n 3, 1) := by decide +kernel
theorem dL_law_371 : decode cL_law 371 = .ok (.iconst 5, 1) := by decide +kernel
theorem dL_law_372 : decode cL_law 372 = .ok (.iadd, 1) := by decide +kernel
theorem dL_law_373 : decode cL_law 373 = .ok (.iaload, 1) := by decide +kernel
theorem dL_law_374 : decode cL_law 374 = .ok (.invokevirtual 32, 3) := by decide +kernel
theorem dL_law_377 : decode cL_law 377 = .ok (.aload_n 2, 1) := by decide +kernel
theorem dL_law_378 : decode cL_law 378 = .ok (.aload_n 0, 1) := by decide +kernel
theorem dL_law_379 : decode cL_law 379 = .ok (.iload_n 3, 1) := by decide +kernel
theorem dL_law_380 : decode cL_law 380 = .ok (.iconst 1, 1) := by decide +kernel
theorem dL_law_381 : decode cL_law 381 = .ok (.iadd, 1) := by decide +kernel
theorem dL_law_382 : decode cL_law 382 = .ok (.iaload, 1) := by decide +kernel
theorem dL_law_383 : decode cL_law 383 = .ok (.aload_n 0, 1) := by decide +kernel
theorem dL_law_384 : decode cL_law 384 = .ok (.iload_n 3, 1) := by decide +kernel
theorem dL_law_385 : decode cL_law 385 = .ok (.iconst 2, 1) := by decide +kernel
theorem dL_law_386 : decode cL_law 386 = .ok (.iadd, 1) := by decide +kernel
theorem dL_law_387 : decode cL_law 387 = .ok (.iaload, 1) := by decide +kernel
theorem dL_law_388 : decode cL_law 388 = .ok (.aload_n 0, 1) := by decide +kernel
theorem dL_law_389 : decode cL_law 389 = .ok (.iload_n 3, 1) := by decide +kernel
theorem dL_law_390 : decode cL_law 390 = .ok (.iconst 3, 1) := by decide +kernel
theorem dL_law_391 : decode cL_law 391 = .ok (.iadd, 1) := by decide +kernel
theorem dL_law_392 : decode cL_law 392 = .ok (.iaload, 1) := by decide +kernel
theorem dL_law_393 : decode cL_law 393 = .ok (.aload_n 0, 1) := by decide +kernel
theorem dL_law_394 : decode cL_law 394 = .ok (.iload_n 3, 1) := by decide +kernel
theorem dL_law_395 : decode cL_law 395 = .ok (.iconst 4, 1) := by decide +kernel
theorem dL_law_396 : decode cL_law 396 = .ok (.iadd, 1) := by decide +kernel
theorem dL_law_397 : decode cL_law 397 = .ok (.iaload, 1) := by decide +kernel
theorem dL_law_398 : decode cL_law 398 = .ok (.aload_n 0, 1) := by decide +kernel
theorem dL_law_399 : decode cL_law 399 = .ok (.iload_n 3, 1) := by decide +kernel
theorem dL_law_400 : decode cL_law 400 = .ok (.iconst 5, 1) := by decide +kernel
theorem dL_law_401 : decode cL_law 401 = .ok (.iadd, 1) := by decide +kernel
theorem dL_law_402 : decode cL_law 402 = .ok (.iaload, 1) := by decide +kernel
theorem dL_law_403 : decode cL_law 403 = .ok (.invokevirtual 36, 3) := by decide +kernel
theorem dL_law_406 : decode cL_law 406 = .ok (.if_icmp .eq 929, 3) := by decide +kernel
theorem dL_law_409 : decode cL_law 409 = .ok (.iconst 0, 1) := by decide +kernel
theorem dL_law_410 : decode cL_law 410 = .ok (.ireturn, 1) := by decide +kernel
theorem dL_law_411 : decode cL_law 411 = .ok (.aload_n 1, 1) := by decide +kernel
theorem dL_law_412 : decode cL_law 412 = .ok (.aload_n 0, 1) := by decide +kernel
theorem dL_law_413 : decode cL_law 413 = .ok (.iload_n 3, 1) := by decide +kernel
theorem dL_law_414 : decode cL_law 414 = .ok (.iconst 1, 1) := by decide +kernel
theorem dL_law_415 : decode cL_law 415 = .ok (.iadd, 1) := by decide +kernel
theorem dL_law_416 : decode cL_law 416 = .ok (.iaload, 1) := by decide +kernel
theorem dL_law_417 : decode cL_law 417 = .ok (.invokevirtual 37, 3) := by decide +kernel
theorem dL_law_420 : decode cL_law 420 = .ok (.aload_n 2, 1) := by decide +kernel
theorem dL_law_421 : decode cL_law 421 = .ok (.aload_n 0, 1) := by decide +kernel
theorem dL_law_422 : decode cL_law 422 = .ok (.iload_n 3, 1) := by decide +kernel
theorem dL_law_423 : decode cL_law 423 = .ok (.iconst 1, 1) := by decide +kernel
theorem dL_law_424 : decode cL_law 424 = .ok (.iadd, 1) := by decide +kernel
theorem dL_law_425 : decode cL_law 425 = .ok (.iaload, 1) := by decide +kernel
theorem dL_law_426 : decode cL_law 426 = .ok (.invokevirtual 40, 3) := by decide +kernel
theorem dL_law_429 : decode cL_law 429 = .ok (.if_icmp .eq 906, 3) := by decide +kernel
theorem dL_law_432 : decode cL_law 432 = .ok (.iconst 0, 1) := by decide +kernel
theorem dL_law_433 : decode cL_law 433 = .ok (.ireturn, 1) := by decide +kernel
theorem dL_law_434 : decode cL_law 434 = .ok (.aload_n 1, 1) := by decide +kernel
theorem dL_law_435 : decode cL_law 435 = .ok (.aload_n 0, 1) := by decide +kernel
theorem dL_law_436 : decode cL_law 436 = .ok (.iload_n 3, 1) := by decide +kernel
theorem dL_law_437 : decode cL_law 437 = .ok (.iconst 1, 1) := by decide +kernel
theorem dL_law_438 : decode cL_law 438 = .ok (.iadd, 1) := by decide +kernel
theorem dL_law_439 : decode cL_law 439 = .ok (.iaload, 1) := by decide +kernel
theorem dL_law_440 : decode cL_law 440 = .ok (.aload_n 0, 1) := by decide +kernel
theorem dL_law_441 : decode cL_law 441 = .ok (.iload_n 3, 1) := by decide +kernel
theorem dL_law_442 : decode cL_law 442 = .ok (.iconst 2, 1) := by decide +kernel
theorem dL_law_443 : decode cL_law 443 = .ok (.iadd, 1) := by decide +kernel
theorem dL_law_444 : decode cL_law 444 = .ok (.iaload, 1) := by decide +kernel
theorem dL_law_445 : decode cL_law 445 = .ok (.invokevirtual 41, 3) := by decide +kernel
theorem dL_law_448 : decode cL_law 448 = .ok (.aload_n 2, 1) := by decide +kernel
theorem dL_law_449 : decode cL_law 449 = .ok (.aload_n 0, 1) := by decide +kernel
theorem dL_law_450 : decode cL_law 450 = .ok (.iload_n 3, 1) := by decide +kernel
theorem dL_law_451 : decode cL_law 451 = .ok (.iconst 1, 1) := by decide +kernel
theorem dL_law_452 : decode cL_law 452 = .ok (.iadd, 1) := by decide +kernel
theorem dL_law_453 : decode cL_law 453 = .ok (.iaload, 1) := by decide +kernel
theorem dL_law_454 : decode cL_law 454 = .ok (.aload_n 0, 1) := by decide +kernel
theorem dL_law_455 : decode cL_law 455 = .ok (.iload_n 3, 1) := by decide +kernel
theorem dL_law_456 : decode cL_law 456 = .ok (.iconst 2, 1) := by decide +kernel
theorem dL_law_457 : decode cL_law 457 = .ok (.iadd, 1) := by decide +kernel
theorem dL_law_458 : decode cL_law 458 = .ok (.iaload, 1) := by decide +kernel
theorem dL_law_459 : decode cL_law 459 = .ok (.invokevirtual 44, 3) := by decide +kernel
theorem dL_law_462 : decode cL_law 462 = .ok (.if_icmp .eq 873, 3) := by decide +kernel
theorem dL_law_465 : decode cL_law 465 = .ok (.iconst 0, 1) := by decide +kernel
theorem dL_law_466 : decode cL_law 466 = .ok (.ireturn, 1) := by decide +kernel
theorem dL_law_467 : decode cL_law 467 = .ok (.aload_n 1, 1) := by decide +kernel
theorem dL_law_468 : decode cL_law 468 = .ok (.aload_n 0, 1) := by decide +kernel
theorem dL_law_469 : decode cL_law 469 = .ok (.iload_n 3, 1) := by decide +kernel
theorem dL_law_470 : decode cL_law 470 = .ok (.iconst 1, 1) := by decide +kernel
theorem dL_law_471 : decode cL_law 471 = .ok (.iadd, 1) := by decide +kernel
theorem dL_law_472 : decode cL_law 472 = .ok (.iaload, 1) := by decide +kernel
theorem dL_law_473 : decode cL_law 473 = .ok (.aload_n 0, 1) := by decide +kernel
theorem dL_law_474 : decode cL_law 474 = .ok (.iload_n 3, 1) := by decide +kernel
theorem dL_law_475 : decode cL_law 475 = .ok (.iconst 2, 1) := by decide +kernel
theorem dL_law_476 : decode cL_law 476 = .ok (.iadd, 1) := by decide +kernel
theorem dL_law_477 : decode cL_law 477 = .ok (.iaload, 1) := by decide +kernel
theorem dL_law_478 : decode cL_law 478 = .ok (.aload_n 0, 1) := by decide +kernel
theorem dL_law_479 : decode cL_law 479 = .ok (.iload_n 3, 1) := by decide +kernel
theorem dL_law_480 : decode cL_law 480 = .ok (.iconst 3, 1) := by decide +kernel
theorem dL_law_481 : decode cL_law 481 = .ok (.iadd, 1) := by decide +kernel
theorem dL_law_482 : decode cL_law 482 = .ok (.iaload, 1) := by decide +kernel
theorem dL_law_483 : decode cL_law 483 = .ok (.invokevirtual 45, 3) := by decide +kernel
theorem dL_law_486 : decode cL_law 486 = .ok (.aload_n 2, 1) := by decide +kernel
theorem dL_law_487 : decode cL_law 487 = .ok (.aload_n 0, 1) := by decide +kernel
theorem dL_law_488 : decode cL_law 488 = .ok (.iload_n 3, 1) := by decide +kernel
theorem dL_law_489 : decode cL_law 489 = .ok (.iconst 1, 1) := by decide +kernel
theorem dL_law_490 : decode cL_law 490 = .ok (.iadd, 1) := by decide +kernel
theorem dL_law_491 : decode cL_law 491 = .ok (.iaload, 1) := by decide +kernel
theorem dL_law_492 : decode cL_law 492 = .ok (.aload_n 0, 1) := by decide +kernel
theorem dL_law_493 : decode cL_law 493 = .ok (.iload_n 3, 1) := by decide +kernel
theorem dL_law_494 : decode cL_law 494 = .ok (.iconst 2, 1) := by decide +kernel
theorem dL_law_495 : decode cL_law 495 = .ok (.iadd, 1) := by decide +kernel
theorem dL_law_496 : decode cL_law 496 = .ok (.iaload, 1) := by decide +kernel
theorem dL_law_497 : decode cL_law 497 = .ok (.aload_n 0, 1) := by decide +kernel
theorem dL_law_498 : decode cL_law 498 = .ok (.iload_n 3, 1) := by decide +kernel
theorem dL_law_499 : decode cL_law 499 = .ok (.iconst 3, 1) := by decide +kernel
theorem dL_law_500 : decode cL_law 500 = .ok (.iadd, 1) := by decide +kernel
theorem dL_law_501 : decode cL_law 501 = .ok (.iaload, 1) := by decide +kernel
theorem dL_law_502 : decode cL_law 502 = .ok (.invokevirtual 48, 3) := by decide +kernel
theorem dL_law_505 : decode cL_law 505 = .ok (.if_icmp .eq 830, 3) := by decide +kernel
theorem dL_law_508 : decode cL_law 508 = .ok (.iconst 0, 1) := by decide +kernel
theorem dL_law_509 : decode cL_law 509 = .ok (.ireturn, 1) := by decide +kernel
theorem dL_law_510 : decode cL_law 510 = .ok (.aload_n 1, 1) := by decide +kernel
theorem dL_law_511 : decode cL_law 511 = .ok (.aload_n 0, 1) := by decide +kernel
theorem dL_law_512 : decode cL_law 512 = .ok (.iload_n 3, 1) := by decide +kernel
theorem dL_law_513 : decode cL_law 513 = .ok (.iconst 1, 1) := by decide +kernel
theorem dL_law_514 : decode cL_law 514 = .ok (.iadd, 1) := by decide +kernel
theorem dL_law_515 : decode cL_law 515 = .ok (.iaload, 1) := by decide +kernel
theorem dL_law_516 : decode cL_law 516 = .ok (.invokevirtual 49, 3) := by decide +kernel
theorem dL_law_519 : decode cL_law 519 = .ok (.aload_n 2, 1) := by decide +kernel
theorem dL_law_520 : decode cL_law 520 = .ok (.aload_n 0, 1) := by decide +kernel
theorem dL_law_521 : decode cL_law 521 = .ok (.iload_n 3, 1) := by decide +kernel
theorem dL_law_522 : decode cL_law 522 = .ok (.iconst 1, 1) := by decide +kernel
theorem dL_law_523 : decode cL_law 523 = .ok (.iadd, 1) := by decide +kernel
theorem dL_law_524 : decode cL_law 524 = .ok (.iaload, 1) := by decide +kernel
theorem dL_law_525 : decode cL_law 525 = .ok (.invokevirtual 52, 3) := by decide +kernel
theorem dL_law_528 : decode cL_law 528 = .ok (.if_icmp .eq 807, 3) := by decide +kernel
theorem dL_law_531 : decode cL_law 531 = .ok (.iconst 0, 1) := by decide +kernel
theorem dL_law_532 : decode cL_law 532 = .ok (.ireturn, 1) := by decide +kernel
theorem dL_law_533 : decode cL_law 533 = .ok (.aload_n 1, 1) := by decide +kernel
theorem dL_law_534 : decode cL_law 534 = .ok (.aload_n 0, 1) := by decide +kernel
theorem dL_law_535 : decode cL_law 535 = .ok (.iload_n 3, 1) := by decide +kernel
theorem dL_law_536 : decode cL_law 536 = .ok (.iconst 1, 1) := by decide +kernel
theorem dL_law_537 : decode cL_law 537 = .ok (.iadd, 1) := by decide +kernel
theorem dL_law_538 : decode cL_law 538 = .ok (.iaload, 1) := by decide +kernel
theorem dL_law_539 : decode cL_law 539 = .ok (.invokevirtual 53, 3) := by decide +kernel
theorem dL_law_542 : decode cL_law 542 = .ok (.aload_n 2, 1) := by decide +kernel
theorem dL_law_543 : decode cL_law 543 = .ok (.aload_n 0, 1) := by decide +kernel
theorem dL_law_544 : decode cL_law 544 = .ok (.iload_n 3, 1) := by decide +kernel
theorem dL_law_545 : decode cL_law 545 = .ok (.iconst 1, 1) := by decide +kernel
theorem dL_law_546 : decode cL_law 546 = .ok (.iadd, 1) := by decide +kernel
theorem dL_law_547 : decode cL_law 547 = .ok (.iaload, 1) := by decide +kernel
theorem dL_law_548 : decode cL_law 548 = .ok (.invokevirtual 56, 3) := by decide +kernel
theorem dL_law_551 : decode cL_law 551 = .ok (.if_icmp .eq 784, 3) := by decide +kernel
theorem dL_law_554 : decode cL_law 554 = .ok (.iconst 0, 1) := by decide +kernel
theorem dL_law_555 : decode cL_law 555 = .ok (.ireturn, 1) := by decide +kernel
theorem dL_law_556 : decode cL_law 556 = .ok (.aload_n 1, 1) := by decide +kernel
theorem dL_law_557 : decode cL_law 557 = .ok (.aload_n 0, 1) := by decide +kernel
theorem dL_law_558 : decode cL_law 558 = .ok (.iload_n 3, 1) := by decide +kernel
theorem dL_law_559 : decode cL_law 559 = .ok (.iconst 1, 1) := by decide +kernel
theorem dL_law_560 : decode cL_law 560 = .ok (.iadd, 1) := by decide +kernel
theorem dL_law_561 : decode cL_law 561 = .ok (.iaload, 1) := by decide +kernel
theorem dL_law_562 : decode cL_law 562 = .ok (.aload_n 0, 1) := by decide +kernel
theorem dL_law_563 : decode cL_law 563 = .ok (.iload_n 3, 1) := by decide +kernel
theorem dL_law_564 : decode cL_law 564 = .ok (.iconst 2, 1) := by decide +kernel
theorem dL_law_565 : decode cL_law 565 = .ok (.iadd, 1) := by decide +kernel
theorem dL_law_566 : decode cL_law 566 = .ok (.iaload, 1) := by decide +kernel
theorem dL_law_567 : decode cL_law 567 = .ok (.invokevirtual 57, 3) := by decide +kernel
theorem dL_law_570 : decode cL_law 570 = .ok (.aload_n 2, 1) := by decide +kernel
theorem dL_law_571 : decode cL_law 571 = .ok (.aload_n 0, 1) := by decide +kernel
theorem dL_law_572 : decode cL_law 572 = .ok (.iload_n 3, 1) := by decide +kernel
theorem dL_law_573 : decode cL_law 573 = .ok (.iconst 1, 1) := by decide +kernel
theorem dL_law_574 : decode cL_law 574 = .ok (.iadd, 1) := by decide +kernel
theorem dL_law_575 : decode cL_law 575 = .ok (.iaload, 1) := by decide +kernel
theorem dL_law_576 : decode cL_law 576 = .ok (.aload_n 0, 1) := by decide +kernel
theorem dL_law_577 : decode cL_law 577 = .ok (.iload_n 3, 1) := by decide +kernel
theorem dL_law_578 : decode cL_law 578 = .ok (.iconst 2, 1) := by decide +kernel
theorem dL_law_579 : decode cL_law 579 = .ok (.iadd, 1) := by decide +kernel
theorem dL_law_580 : decode cL_law 580 = .ok (.iaload, 1) := by decide +kernel
theorem dL_law_581 : decode cL_law 581 = .ok (.invokevirtual 60, 3) := by decide +kernel
theorem dL_law_584 : decode cL_law 584 = .ok (.if_icmp .eq 751, 3) := by decide +kernel
theorem dL_law_587 : decode cL_law 587 = .ok (.iconst 0, 1) := by decide +kernel
theorem dL_law_588 : decode cL_law 588 = .ok (.ireturn, 1) := by decide +kernel
theorem dL_law_589 : decode cL_law 589 = .ok (.aload_n 1, 1) := by decide +kernel
theorem dL_law_590 : decode cL_law 590 = .ok (.aload_n 0, 1) := by decide +kernel
theorem dL_law_591 : decode cL_law 591 = .ok (.iload_n 3, 1) := by decide +kernel
theorem dL_law_592 : decode cL_law 592 = .ok (.iconst 1, 1) := by decide +kernel
theorem dL_law_593 : decode cL_law 593 = .ok (.iadd, 1) := by decide +kernel
theorem dL_law_594 : decode cL_law 594 = .ok (.iaload, 1) := by decide +kernel
theorem dL_law_595 : decode cL_law 595 = .ok (.aload_n 0, 1) := by decide +kernel
theorem dL_law_596 : decode cL_law 596 = .ok (.iload_n 3, 1) := by decide +kernel
theorem dL_law_597 : decode cL_law 597 = .ok (.iconst 2, 1) := by decide +kernel
theorem dL_law_598 : decode cL_law 598 = .ok (.iadd, 1) := by decide +kernel
theorem dL_law_599 : decode cL_law 599 = .ok (.iaload, 1) := by decide +kernel
theorem dL_law_600 : decode cL_law 600 = .ok (.invokevirtual 61, 3) := by decide +kernel
theorem dL_law_603 : decode cL_law 603 = .ok (.aload_n 2, 1) := by decide +kernel
theorem dL_law_604 : decode cL_law 604 = .ok (.aload_n 0, 1) := by decide +kernel
theorem dL_law_605 : decode cL_law 605 = .ok (.iload_n 3, 1) := by decide +kernel
theorem dL_law_606 : decode cL_law 606 = .ok (.iconst 1, 1) := by decide +kernel
theorem dL_law_607 : decode cL_law 607 = .ok (.iadd, 1) := by decide +kernel
theorem dL_law_608 : decode cL_law 608 = .ok (.iaload, 1) := by decide +kernel
theorem dL_law_609 : decode cL_law 609 = .ok (.aload_n 0, 1) := by decide +kernel
theorem dL_law_610 : decode cL_law 610 = .ok (.iload_n 3, 1) := by decide +kernel
theorem dL_law_611 : decode cL_law 611 = .ok (.iconst 2, 1) := by decide +kernel
theorem dL_law_612 : decode cL_law 612 = .ok (.iadd, 1) := by decide +kernel
theorem dL_law_613 : decode cL_law 613 = .ok (.iaload, 1) := by decide +kernel
theorem dL_law_614 : decode cL_law 614 = .ok (.invokevirtual 64, 3) := by decide +kernel
theorem dL_law_617 : decode cL_law 617 = .ok (.if_icmp .eq 718, 3) := by decide +kernel
theorem dL_law_620 : decode cL_law 620 = .ok (.iconst 0, 1) := by decide +kernel
theorem dL_law_621 : decode cL_law 621 = .ok (.ireturn, 1) := by decide +kernel
theorem dL_law_622 : decode cL_law 622 = .ok (.aload_n 1, 1) := by decide +kernel
theorem dL_law_623 : decode cL_law 623 = .ok (.aload_n 0, 1) := by decide +kernel
theorem dL_law_624 : decode cL_law 624 = .ok (.iload_n 3, 1) := by decide +kernel
theorem dL_law_625 : decode cL_law 625 = .ok (.iconst 1, 1) := by decide +kernel
theorem dL_law_626 : decode cL_law 626 = .ok (.iadd, 1) := by decide +kernel
theorem dL_law_627 : decode cL_law 627 = .ok (.iaload, 1) := by decide +kernel
theorem dL_law_628 : decode cL_law 628 = .ok (.aload_n 0, 1) := by decide +kernel
theorem dL_law_629 : decode cL_law 629 = .ok (.iload_n 3, 1) := by decide +kernel
theorem dL_law_630 : decode cL_law 630 = .ok (.iconst 2, 1) := by decide +kernel
theorem dL_law_631 : decode cL_law 631 = .ok (.iadd, 1) := by decide +kernel
theorem dL_law_632 : decode cL_law 632 = .ok (.iaload, 1) := by decide +kernel
theorem dL_law_633 : decode cL_law 633 = .ok (.invokevirtual 65, 3) := by decide +kernel
theorem dL_law_636 : decode cL_law 636 = .ok (.aload_n 2, 1) := by decide +kernel
theorem dL_law_637 : decode cL_law 637 = .ok (.aload_n 0, 1) := by decide +kernel
theorem dL_law_638 : decode cL_law 638 = .ok (.iload_n 3, 1) := by decide +kernel
theorem dL_law_639 : decode cL_law 639 = .ok (.iconst 1, 1) := by decide +kernel
theorem dL_law_640 : decode cL_law 640 = .ok (.iadd, 1) := by decide +kernel
theorem dL_law_641 : decode cL_law 641 = .ok (.iaload, 1) := by decide +kernel
theorem dL_law_642 : decode cL_law 642 = .ok (.aload_n 0, 1) := by decide +kernel
theorem dL_law_643 : decode cL_law 643 = .ok (.iload_n 3, 1) := by decide +kernel
theorem dL_law_644 : decode cL_law 644 = .ok (.iconst 2, 1) := by decide +kernel
theorem dL_law_645 : decode cL_law 645 = .ok (.iadd, 1) := by decide +kernel
theorem dL_law_646 : decode cL_law 646 = .ok (.iaload, 1) := by decide +kernel
theorem dL_law_647 : decode cL_law 647 = .ok (.invokevirtual 68, 3) := by decide +kernel
theorem dL_law_650 : decode cL_law 650 = .ok (.if_icmp .eq 685, 3) := by decide +kernel
theorem dL_law_653 : decode cL_law 653 = .ok (.iconst 0, 1) := by decide +kernel
theorem dL_law_654 : decode cL_law 654 = .ok (.ireturn, 1) := by decide +kernel
theorem dL_law_655 : decode cL_law 655 = .ok (.aload_n 1, 1) := by decide +kernel
theorem dL_law_656 : decode cL_law 656 = .ok (.aload_n 0, 1) := by decide +kernel
theorem dL_law_657 : decode cL_law 657 = .ok (.iload_n 3, 1) := by decide +kernel
theorem dL_law_658 : decode cL_law 658 = .ok (.iconst 1, 1) := by decide +kernel
theorem dL_law_659 : decode cL_law 659 = .ok (.iadd, 1) := by decide +kernel
theorem dL_law_660 : decode cL_law 660 = .ok (.iaload, 1) := by decide +kernel
theorem dL_law_661 : decode cL_law 661 = .ok (.aload_n 0, 1) := by decide +kernel
theorem dL_law_662 : decode cL_law 662 = .ok (.iload_n 3, 1) := by decide +kernel
theorem dL_law_663 : decode cL_law 663 = .ok (.iconst 2, 1) := by decide +kernel
theorem dL_law_664 : decode cL_law 664 = .ok (.iadd, 1) := by decide +kernel
theorem dL_law_665 : decode cL_law 665 = .ok (.iaload, 1) := by decide +kernel
theorem dL_law_666 : decode cL_law 666 = .ok (.invokevirtual 69, 3) := by decide +kernel
theorem dL_law_669 : decode cL_law 669 = .ok (.aload_n 2, 1) := by decide +kernel
theorem dL_law_670 : decode cL_law 670 = .ok (.aload_n 0, 1) := by decide +kernel
theorem dL_law_671 : decode cL_law 671 = .ok (.iload_n 3, 1) := by decide +kernel
theorem dL_law_672 : decode cL_law 672 = .ok (.iconst 1, 1) := by decide +kernel
theorem dL_law_673 : decode cL_law 673 = .ok (.iadd, 1) := by decide +kernel
theorem dL_law_674 : decode cL_law 674 = .ok (.iaload, 1) := by decide +kernel
theorem dL_law_675 : decode cL_law 675 = .ok (.aload_n 0, 1) := by decide +kernel
theorem dL_law_676 : decode cL_law 676 = .ok (.iload_n 3, 1) := by decide +kernel
theorem dL_law_677 : decode cL_law 677 = .ok (.iconst 2, 1) := by decide +kernel
theorem dL_law_678 : decode cL_law 678 = .ok (.iadd, 1) := by decide +kernel
theorem dL_law_679 : decode cL_law 679 = .ok (.iaload, 1) := by decide +kernel
theorem dL_law_680 : decode cL_law 680 = .ok (.invokevirtual 72, 3) := by decide +kernel
theorem dL_law_683 : decode cL_law 683 = .ok (.if_icmp .eq 652, 3) := by decide +kernel
theorem dL_law_686 : decode cL_law 686 = .ok (.iconst 0, 1) := by decide +kernel
theorem dL_law_687 : decode cL_law 687 = .ok (.ireturn, 1) := by decide +kernel
theorem dL_law_688 : decode cL_law 688 = .ok (.aload_n 1, 1) := by decide +kernel
theorem dL_law_689 : decode cL_law 689 = .ok (.aload_n 0, 1) := by decide +kernel
theorem dL_law_690 : decode cL_law 690 = .ok (.iload_n 3, 1) := by decide +kernel
theorem dL_law_691 : decode cL_law 691 = .ok (.iconst 1, 1) := by decide +kernel
theorem dL_law_692 : decode cL_law 692 = .ok (.iadd, 1) := by decide +kernel
theorem dL_law_693 : decode cL_law 693 = .ok (.iaload, 1) := by decide +kernel
theorem dL_law_694 : decode cL_law 694 = .ok (.aload_n 0, 1) := by decide +kernel
theorem dL_law_695 : decode cL_law 695 = .ok (.iload_n 3, 1) := by decide +kernel
theorem dL_law_696 : decode cL_law 696 = .ok (.iconst 2, 1) := by decide +kernel
theorem dL_law_697 : decode cL_law 697 = .ok (.iadd, 1) := by decide +kernel
theorem dL_law_698 : decode cL_law 698 = .ok (.iaload, 1) := by decide +kernel
theorem dL_law_699 : decode cL_law 699 = .ok (.invokevirtual 73, 3) := by decide +kernel
theorem dL_law_702 : decode cL_law 702 = .ok (.aload_n 2, 1) := by decide +kernel
theorem dL_law_703 : decode cL_law 703 = .ok (.aload_n 0, 1) := by decide +kernel
theorem dL_law_704 : decode cL_law 704 = .ok (.iload_n 3, 1) := by decide +kernel
theorem dL_law_705 : decode cL_law 705 = .ok (.iconst 1, 1) := by decide +kernel
theorem dL_law_706 : decode cL_law 706 = .ok (.iadd, 1) := by decide +kernel
theorem dL_law_707 : decode cL_law 707 = .ok (.iaload, 1) := by decide +kernel
theorem dL_law_708 : decode cL_law 708 = .ok (.aload_n 0, 1) := by decide +kernel
theorem dL_law_709 : decode cL_law 709 = .ok (.iload_n 3, 1) := by decide +kernel
theorem dL_law_710 : decode cL_law 710 = .ok (.iconst 2, 1) := by decide +kernel
theorem dL_law_711 : decode cL_law 711 = .ok (.iadd, 1) := by decide +kernel
theorem dL_law_712 : decode cL_law 712 = .ok (.iaload, 1) := by decide +kernel
theorem dL_law_713 : decode cL_law 713 = .ok (.invokevirtual 76, 3) := by decide +kernel
theorem dL_law_716 : decode cL_law 716 = .ok (.if_icmp .eq 619, 3) := by decide +kernel
theorem dL_law_719 : decode cL_law 719 = .ok (.iconst 0, 1) := by decide +kernel
theorem dL_law_720 : decode cL_law 720 = .ok (.ireturn, 1) := by decide +kernel
theorem dL_law_721 : decode cL_law 721 = .ok (.aload_n 1, 1) := by decide +kernel
theorem dL_law_722 : decode cL_law 722 = .ok (.aload_n 0, 1) := by decide +kernel
theorem dL_law_723 : decode cL_law 723 = .ok (.iload_n 3, 1) := by decide +kernel
theorem dL_law_724 : decode cL_law 724 = .ok (.iconst 1, 1) := by decide +kernel
theorem dL_law_725 : decode cL_law 725 = .ok (.iadd, 1) := by decide +kernel
theorem dL_law_726 : decode cL_law 726 = .ok (.iaload, 1) := by decide +kernel
theorem dL_law_727 : decode cL_law 727 = .ok (.invokevirtual 77, 3) := by decide +kernel
theorem dL_law_730 : decode cL_law 730 = .ok (.aload_n 2, 1) := by decide +kernel
theorem dL_law_731 : decode cL_law 731 = .ok (.aload_n 0, 1) := by decide +kernel
theorem dL_law_732 : decode cL_law 732 = .ok (.iload_n 3, 1) := by decide +kernel
theorem dL_law_733 : decode cL_law 733 = .ok (.iconst 1, 1) := by decide +kernel
theorem dL_law_734 : decode cL_law 734 = .ok (.iadd, 1) := by decide +kernel
theorem dL_law_735 : decode cL_law 735 = .ok (.iaload, 1) := by decide +kernel
theorem dL_law_736 : decode cL_law 736 = .ok (.invokevirtual 80, 3) := by decide +kernel
theorem dL_law_739 : decode cL_law 739 = .ok (.if_icmp .eq 596, 3) := by decide +kernel
theorem dL_law_742 : decode cL_law 742 = .ok (.iconst 0, 1) := by decide +kernel
theorem dL_law_743 : decode cL_law 743 = .ok (.ireturn, 1) := by decide +kernel
theorem dL_law_744 : decode cL_law 744 = .ok (.aload_n 1, 1) := by decide +kernel
theorem dL_law_745 : decode cL_law 745 = .ok (.aload_n 0, 1) := by decide +kernel
theorem dL_law_746 : decode cL_law 746 = .ok (.iload_n 3, 1) := by decide +kernel
theorem dL_law_747 : decode cL_law 747 = .ok (.iconst 1, 1) := by decide +kernel
theorem dL_law_748 : decode cL_law 748 = .ok (.iadd, 1) := by decide +kernel
theorem dL_law_749 : decode cL_law 749 = .ok (.iaload, 1) := by decide +kernel
theorem dL_law_750 : decode cL_law 750 = .ok (.invokevirtual 81, 3) := by decide +kernel
theorem dL_law_753 : decode cL_law 753 = .ok (.aload_n 2, 1) := by decide +kernel
theorem dL_law_754 : decode cL_law 754 = .ok (.aload_n 0, 1) := by decide +kernel
theorem dL_law_755 : decode cL_law 755 = .ok (.iload_n 3, 1) := by decide +kernel
theorem dL_law_756 : decode cL_law 756 = .ok (.iconst 1, 1) := by decide +kernel
theorem dL_law_757 : decode cL_law 757 = .ok (.iadd, 1) := by decide +kernel
theorem dL_law_758 : decode cL_law 758 = .ok (.iaload, 1) := by decide +kernel
theorem dL_law_759 : decode cL_law 759 = .ok (.invokevirtual 84, 3) := by decide +kernel
theorem dL_law_762 : decode cL_law 762 = .ok (.if_icmp .eq 573, 3) := by decide +kernel
theorem dL_law_765 : decode cL_law 765 = .ok (.iconst 0, 1) := by decide +kernel
theorem dL_law_766 : decode cL_law 766 = .ok (.ireturn, 1) := by decide +kernel
theorem dL_law_767 : decode cL_law 767 = .ok (.aload_n 1, 1) := by decide +kernel
theorem dL_law_768 : decode cL_law 768 = .ok (.aload_n 0, 1) := by decide +kernel
theorem dL_law_769 : decode cL_law 769 = .ok (.iload_n 3, 1) := by decide +kernel
theorem dL_law_770 : decode cL_law 770 = .ok (.iconst 1, 1) := by decide +kernel
theorem dL_law_771 : decode cL_law 771 = .ok (.iadd, 1) := by decide +kernel
theorem dL_law_772 : decode cL_law 772 = .ok (.iaload, 1) := by decide +kernel
theorem dL_law_773 : decode cL_law 773 = .ok (.invokevirtual 85, 3) := by decide +kernel
theorem dL_law_776 : decode cL_law 776 = .ok (.aload_n 2, 1) := by decide +kernel
theorem dL_law_777 : decode cL_law 777 = .ok (.aload_n 0, 1) := by decide +kernel
theorem dL_law_778 : decode cL_law 778 = .ok (.iload_n 3, 1) := by decide +kernel
theorem dL_law_779 : decode cL_law 779 = .ok (.iconst 1, 1) := by decide +kernel
theorem dL_law_780 : decode cL_law 780 = .ok (.iadd, 1) := by decide +kernel
theorem dL_law_781 : decode cL_law 781 = .ok (.iaload, 1) := by decide +kernel
theorem dL_law_782 : decode cL_law 782 = .ok (.invokevirtual 88, 3) := by decide +kernel
theorem dL_law_785 : decode cL_law 785 = .ok (.if_icmp .eq 550, 3) := by decide +kernel
theorem dL_law_788 : decode cL_law 788 = .ok (.iconst 0, 1) := by decide +kernel
theorem dL_law_789 : decode cL_law 789 = .ok (.ireturn, 1) := by decide +kernel
theorem dL_law_790 : decode cL_law 790 = .ok (.aload_n 1, 1) := by decide +kernel
theorem dL_law_791 : decode cL_law 791 = .ok (.aload_n 0, 1) := by decide +kernel
theorem dL_law_792 : decode cL_law 792 = .ok (.iload_n 3, 1) := by decide +kernel
theorem dL_law_793 : decode cL_law 793 = .ok (.iconst 1, 1) := by decide +kernel
theorem dL_law_794 : decode cL_law 794 = .ok (.iadd, 1) := by decide +kernel
theorem dL_law_795 : decode cL_law 795 = .ok (.iaload, 1) := by decide +kernel
theorem dL_law_796 : decode cL_law 796 = .ok (.invokevirtual 89, 3) := by decide +kernel
theorem dL_law_799 : decode cL_law 799 = .ok (.aload_n 2, 1) := by decide +kernel
theorem dL_law_800 : decode cL_law 800 = .ok (.aload_n 0, 1) := by decide +kernel
theorem dL_law_801 : decode cL_law 801 = .ok (.iload_n 3, 1) := by decide +kernel
theorem dL_law_802 : decode cL_law 802 = .ok (.iconst 1, 1) := by decide +kernel
theorem dL_law_803 : decode cL_law 803 = .ok (.iadd, 1) := by decide +kernel
theorem dL_law_804 : decode cL_law 804 = .ok (.iaload, 1) := by decide +kernel
theorem dL_law_805 : decode cL_law 805 = .ok (.invokevirtual 92, 3) := by decide +kernel
theorem dL_law_808 : decode cL_law 808 = .ok (.if_icmp .eq 527, 3) := by decide +kernel
theorem dL_law_811 : decode cL_law 811 = .ok (.iconst 0, 1) := by decide +kernel
theorem dL_law_812 : decode cL_law 812 = .ok (.ireturn, 1) := by decide +kernel
theorem dL_law_813 : decode cL_law 813 = .ok (.aload_n 1, 1) := by decide +kernel
theorem dL_law_814 : decode cL_law 814 = .ok (.invokevirtual 93, 3) := by decide +kernel
theorem dL_law_817 : decode cL_law 817 = .ok (.aload_n 2, 1) := by decide +kernel
theorem dL_law_818 : decode cL_law 818 = .ok (.invokevirtual 97, 3) := by decide +kernel
theorem dL_law_821 : decode cL_law 821 = .ok (.if_icmp .eq 514, 3) := by decide +kernel
theorem dL_law_824 : decode cL_law 824 = .ok (.iconst 0, 1) := by decide +kernel
theorem dL_law_825 : decode cL_law 825 = .ok (.ireturn, 1) := by decide +kernel
theorem dL_law_826 : decode cL_law 826 = .ok (.aload_n 1, 1) := by decide +kernel
theorem dL_law_827 : decode cL_law 827 = .ok (.invokevirtual 98, 3) := by decide +kernel
theorem dL_law_830 : decode cL_law 830 = .ok (.aload_n 2, 1) := by decide +kernel
theorem dL_law_831 : decode cL_law 831 = .ok (.invokevirtual 101, 3) := by decide +kernel
theorem dL_law_834 : decode cL_law 834 = .ok (.if_icmp .eq 501, 3) := by decide +kernel
theorem dL_law_837 : decode cL_law 837 = .ok (.iconst 0, 1) := by decide +kernel
theorem dL_law_838 : decode cL_law 838 = .ok (.ireturn, 1) := by decide +kernel
theorem dL_law_839 : decode cL_law 839 = .ok (.aload_n 1, 1) := by decide +kernel
theorem dL_law_840 : decode cL_law 840 = .ok (.aload_n 0, 1) := by decide +kernel
theorem dL_law_841 : decode cL_law 841 = .ok (.iload_n 3, 1) := by decide +kernel
theorem dL_law_842 : decode cL_law 842 = .ok (.iconst 1, 1) := by decide +kernel
theorem dL_law_843 : decode cL_law 843 = .ok (.iadd, 1) := by decide +kernel
theorem dL_law_844 : decode cL_law 844 = .ok (.iaload, 1) := by decide +kernel
theorem dL_law_845 : decode cL_law 845 = .ok (.invokevirtual 102, 3) := by decide +kernel
theorem dL_law_848 : decode cL_law 848 = .ok (.aload_n 2, 1) := by decide +kernel
theorem dL_law_849 : decode cL_law 849 = .ok (.aload_n 0, 1) := by decide +kernel
theorem dL_law_850 : decode cL_law 850 = .ok (.iload_n 3, 1) := by decide +kernel
theorem dL_law_851 : decode cL_law 851 = .ok (.iconst 1, 1) := by decide +kernel
theorem dL_law_852 : decode cL_law 852 = .ok (.iadd, 1) := by decide +kernel
theorem dL_law_853 : decode cL_law 853 = .ok (.iaload, 1) := by decide +kernel
theorem dL_law_854 : decode cL_law 854 = .ok (.invokevirtual 105, 3) := by decide +kernel
theorem dL_law_857 : decode cL_law 857 = .ok (.if_icmp .eq 478, 3) := by decide +kernel
theorem dL_law_860 : decode cL_law 860 = .ok (.iconst 0, 1) := by decide +kernel
theorem dL_law_861 : decode cL_law 861 = .ok (.ireturn, 1) := by decide +kernel
theorem dL_law_862 : decode cL_law 862 = .ok (.aload_n 1, 1) := by decide +kernel
theorem dL_law_863 : decode cL_law 863 = .ok (.aload_n 0, 1) := by decide +kernel
theorem dL_law_864 : decode cL_law 864 = .ok (.iload_n 3, 1) := by decide +kernel
theorem dL_law_865 : decode cL_law 865 = .ok (.iconst 1, 1) := by decide +kernel
theorem dL_law_866 : decode cL_law 866 = .ok (.iadd, 1) := by decide +kernel
theorem dL_law_867 : decode cL_law 867 = .ok (.iaload, 1) := by decide +kernel
theorem dL_law_868 : decode cL_law 868 = .ok (.invokevirtual 106, 3) := by decide +kernel
theorem dL_law_871 : decode cL_law 871 = .ok (.aload_n 2, 1) := by decide +kernel
theorem dL_law_872 : decode cL_law 872 = .ok (.aload_n 0, 1) := by decide +kernel
theorem dL_law_873 : decode cL_law 873 = .ok (.iload_n 3, 1) := by decide +kernel
theorem dL_law_874 : decode cL_law 874 = .ok (.iconst 1, 1) := by decide +kernel
theorem dL_law_875 : decode cL_law 875 = .ok (.iadd, 1) := by decide +kernel
theorem dL_law_876 : decode cL_law 876 = .ok (.iaload, 1) := by decide +kernel
theorem dL_law_877 : decode cL_law 877 = .ok (.invokevirtual 109, 3) := by decide +kernel
theorem dL_law_880 : decode cL_law 880 = .ok (.if_icmp .eq 455, 3) := by decide +kernel
theorem dL_law_883 : decode cL_law 883 = .ok (.iconst 0, 1) := by decide +kernel
theorem dL_law_884 : decode cL_law 884 = .ok (.ireturn, 1) := by decide +kernel
theorem dL_law_885 : decode cL_law 885 = .ok (.aload_n 1, 1) := by decide +kernel
theorem dL_law_886 : decode cL_law 886 = .ok (.aload_n 0, 1) := by decide +kernel
theorem dL_law_887 : decode cL_law 887 = .ok (.iload_n 3, 1) := by decide +kernel
theorem dL_law_888 : decode cL_law 888 = .ok (.iconst 1, 1) := by decide +kernel
theorem dL_law_889 : decode cL_law 889 = .ok (.iadd, 1) := by decide +kernel
theorem dL_law_890 : decode cL_law 890 = .ok (.iaload, 1) := by decide +kernel
theorem dL_law_891 : decode cL_law 891 = .ok (.invokevirtual 110, 3) := by decide +kernel
theorem dL_law_894 : decode cL_law 894 = .ok (.aload_n 2, 1) := by decide +kernel
theorem dL_law_895 : decode cL_law 895 = .ok (.aload_n 0, 1) := by decide +kernel
theorem dL_law_896 : decode cL_law 896 = .ok (.iload_n 3, 1) := by decide +kernel
theorem dL_law_897 : decode cL_law 897 = .ok (.iconst 1, 1) := by decide +kernel
theorem dL_law_898 : decode cL_law 898 = .ok (.iadd, 1) := by decide +kernel
theorem dL_law_899 : decode cL_law 899 = .ok (.iaload, 1) := by decide +kernel
theorem dL_law_900 : decode cL_law 900 = .ok (.invokevirtual 113, 3) := by decide +kernel
theorem dL_law_903 : decode cL_law 903 = .ok (.if_icmp .eq 432, 3) := by decide +kernel
theorem dL_law_906 : decode cL_law 906 = .ok (.iconst 0, 1) := by decide +kernel
theorem dL_law_907 : decode cL_law 907 = .ok (.ireturn, 1) := by decide +kernel
theorem dL_law_908 : decode cL_law 908 = .ok (.aload_n 1, 1) := by decide +kernel
theorem dL_law_909 : decode cL_law 909 = .ok (.aload_n 0, 1) := by decide +kernel
theorem dL_law_910 : decode cL_law 910 = .ok (.iload_n 3, 1) := by decide +kernel
theorem dL_law_911 : decode cL_law 911 = .ok (.iconst 1, 1) := by decide +kernel
theorem dL_law_912 : decode cL_law 912 = .ok (.iadd, 1) := by decide +kernel
theorem dL_law_913 : decode cL_law 913 = .ok (.iaload, 1) := by decide +kernel
theorem dL_law_914 : decode cL_law 914 = .ok (.invokevirtual 114, 3) := by decide +kernel
theorem dL_law_917 : decode cL_law 917 = .ok (.aload_n 2, 1) := by decide +kernel
theorem dL_law_918 : decode cL_law 918 = .ok (.aload_n 0, 1) := by decide +kernel
theorem dL_law_919 : decode cL_law 919 = .ok (.iload_n 3, 1) := by decide +kernel
theorem dL_law_920 : decode cL_law 920 = .ok (.iconst 1, 1) := by decide +kernel
theorem dL_law_921 : decode cL_law 921 = .ok (.iadd, 1) := by decide +kernel
theorem dL_law_922 : decode cL_law 922 = .ok (.iaload, 1) := by decide +kernel
theorem dL_law_923 : decode cL_law 923 = .ok (.invokevirtual 117, 3) := by decide +kernel
theorem dL_law_926 : decode cL_law 926 = .ok (.if_icmp .eq 409, 3) := by decide +kernel
theorem dL_law_929 : decode cL_law 929 = .ok (.iconst 0, 1) := by decide +kernel
theorem dL_law_930 : decode cL_law 930 = .ok (.ireturn, 1) := by decide +kernel
theorem dL_law_931 : decode cL_law 931 = .ok (.aload_n 1, 1) := by decide +kernel
theorem dL_law_932 : decode cL_law 932 = .ok (.invokevirtual 118, 3) := by decide +kernel
theorem dL_law_935 : decode cL_law 935 = .ok (.aload_n 2, 1) := by decide +kernel
theorem dL_law_936 : decode cL_law 936 = .ok (.invokevirtual 121, 3) := by decide +kernel
theorem dL_law_939 : decode cL_law 939 = .ok (.if_icmp .eq 396, 3) := by decide +kernel
theorem dL_law_942 : decode cL_law 942 = .ok (.iconst 0, 1) := by decide +kernel
theorem dL_law_943 : decode cL_law 943 = .ok (.ireturn, 1) := by decide +kernel
theorem dL_law_944 : decode cL_law 944 = .ok (.aload_n 1, 1) := by decide +kernel
theorem dL_law_945 : decode cL_law 945 = .ok (.aload_n 0, 1) := by decide +kernel
theorem dL_law_946 : decode cL_law 946 = .ok (.iload_n 3, 1) := by decide +kernel
theorem dL_law_947 : decode cL_law 947 = .ok (.iconst 1, 1) := by decide +kernel
theorem dL_law_948 : decode cL_law 948 = .ok (.iadd, 1) := by decide +kernel
theorem dL_law_949 : decode cL_law 949 = .ok (.iaload, 1) := by decide +kernel
theorem dL_law_950 : decode cL_law 950 = .ok (.aload_n 0, 1) := by decide +kernel
theorem dL_law_951 : decode cL_law 951 = .ok (.iload_n 3, 1) := by decide +kernel
theorem dL_law_952 : decode cL_law 952 = .ok (.iconst 2, 1) := by decide +kernel
theorem dL_law_953 : decode cL_law 953 = .ok (.iadd, 1) := by decide +kernel
theorem dL_law_954 : decode cL_law 954 = .ok (.iaload, 1) := by decide +kernel
theorem dL_law_955 : decode cL_law 955 = .ok (.invokevirtual 122, 3) := by decide +kernel
theorem dL_law_958 : decode cL_law 958 = .ok (.aload_n 2, 1) := by decide +kernel
theorem dL_law_959 : decode cL_law 959 = .ok (.aload_n 0, 1) := by decide +kernel
theorem dL_law_960 : decode cL_law 960 = .ok (.iload_n 3, 1) := by decide +kernel
theorem dL_law_961 : decode cL_law 961 = .ok (.iconst 1, 1) := by decide +kernel
theorem dL_law_962 : decode cL_law 962 = .ok (.iadd, 1) := by decide +kernel
theorem dL_law_963 : decode cL_law 963 = .ok (.iaload, 1) := by decide +kernel
theorem dL_law_964 : decode cL_law 964 = .ok (.aload_n 0, 1) := by decide +kernel
theorem dL_law_965 : decode cL_law 965 = .ok (.iload_n 3, 1) := by decide +kernel
theorem dL_law_966 : decode cL_law 966 = .ok (.iconst 2, 1) := by decide +kernel
theorem dL_law_967 : decode cL_law 967 = .ok (.iadd, 1) := by decide +kernel
theorem dL_law_968 : decode cL_law 968 = .ok (.iaload, 1) := by decide +kernel
theorem dL_law_969 : decode cL_law 969 = .ok (.invokevirtual 125, 3) := by decide +kernel
theorem dL_law_972 : decode cL_law 972 = .ok (.if_icmp .eq 363, 3) := by decide +kernel
theorem dL_law_975 : decode cL_law 975 = .ok (.iconst 0, 1) := by decide +kernel
theorem dL_law_976 : decode cL_law 976 = .ok (.ireturn, 1) := by decide +kernel
theorem dL_law_977 : decode cL_law 977 = .ok (.aload_n 1, 1) := by decide +kernel
theorem dL_law_978 : decode cL_law 978 = .ok (.aload_n 0, 1) := by decide +kernel
theorem dL_law_979 : decode cL_law 979 = .ok (.iload_n 3, 1) := by decide +kernel
theorem dL_law_980 : decode cL_law 980 = .ok (.iconst 1, 1) := by decide +kernel
theorem dL_law_981 : decode cL_law 981 = .ok (.iadd, 1) := by decide +kernel
theorem dL_law_982 : decode cL_law 982 = .ok (.iaload, 1) := by decide +kernel
theorem dL_law_983 : decode cL_law 983 = .ok (.aload_n 0, 1) := by decide +kernel
theorem dL_law_984 : decode cL_law 984 = .ok (.iload_n 3, 1) := by decide +kernel
theorem dL_law_985 : decode cL_law 985 = .ok (.iconst 2, 1) := by decide +kernel
theorem dL_law_986 : decode cL_law 986 = .ok (.iadd, 1) := by decide +kernel
theorem dL_law_987 : decode cL_law 987 = .ok (.iaload, 1) := by decide +kernel
theorem dL_law_988 : decode cL_law 988 = .ok (.invokevirtual 126, 3) := by decide +kernel
theorem dL_law_991 : decode cL_law 991 = .ok (.aload_n 2, 1) := by decide +kernel
theorem dL_law_992 : decode cL_law 992 = .ok (.aload_n 0, 1) := by decide +kernel
theorem dL_law_993 : decode cL_law 993 = .ok (.iload_n 3, 1) := by decide +kernel
theorem dL_law_994 : decode cL_law 994 = .ok (.iconst 1, 1) := by decide +kernel
theorem dL_law_995 : decode cL_law 995 = .ok (.iadd, 1) := by decide +kernel
theorem dL_law_996 : decode cL_law 996 = .ok (.iaload, 1) := by decide +kernel
theorem dL_law_997 : decode cL_law 997 = .ok (.aload_n 0, 1) := by decide +kernel
theorem dL_law_998 : decode cL_law 998 = .ok (.iload_n 3, 1) := by decide +kernel
theorem dL_law_999 : decode cL_law 999 = .ok (.iconst 2, 1) := by decide +kernel
theorem dL_law_1000 : decode cL_law 1000 = .ok (.iadd, 1) := by decide +kernel
theorem dL_law_1001 : decode cL_law 1001 = .ok (.iaload, 1) := by decide +kernel
theorem dL_law_1002 : decode cL_law 1002 = .ok (.invokevirtual 129, 3) := by decide +kernel
theorem dL_law_1005 : decode cL_law 1005 = .ok (.if_icmp .eq 330, 3) := by decide +kernel
theorem dL_law_1008 : decode cL_law 1008 = .ok (.iconst 0, 1) := by decide +kernel
theorem dL_law_1009 : decode cL_law 1009 = .ok (.ireturn, 1) := by decide +kernel
theorem dL_law_1010 : decode cL_law 1010 = .ok (.aload_n 1, 1) := by decide +kernel
theorem dL_law_1011 : decode cL_law 1011 = .ok (.aload_n 0, 1) := by decide +kernel
theorem dL_law_1012 : decode cL_law 1012 = .ok (.iload_n 3, 1) := by decide +kernel
theorem dL_law_1013 : decode cL_law 1013 = .ok (.iconst 1, 1) := by decide +kernel
theorem dL_law_1014 : decode cL_law 1014 = .ok (.iadd, 1) := by decide +kernel
theorem dL_law_1015 : decode cL_law 1015 = .ok (.iaload, 1) := by decide +kernel
theorem dL_law_1016 : decode cL_law 1016 = .ok (.aload_n 0, 1) := by decide +kernel
theorem dL_law_1017 : decode cL_law 1017 = .ok (.iload_n 3, 1) := by decide +kernel
theorem dL_law_1018 : decode cL_law 1018 = .ok (.iconst 2, 1) := by decide +kernel
theorem dL_law_1019 : decode cL_law 1019 = .ok (.iadd, 1) := by decide +kernel
theorem dL_law_1020 : decode cL_law 1020 = .ok (.iaload, 1) := by decide +kernel
theorem dL_law_1021 : decode cL_law 1021 = .ok (.invokevirtual 130, 3) := by decide +kernel
theorem dL_law_1024 : decode cL_law 1024 = .ok (.aload_n 2, 1) := by decide +kernel
theorem dL_law_1025 : decode cL_law 1025 = .ok (.aload_n 0, 1) := by decide +kernel
theorem dL_law_1026 : decode cL_law 1026 = .ok (.iload_n 3, 1) := by decide +kernel
theorem dL_law_1027 : decode cL_law 1027 = .ok (.iconst 1, 1) := by decide +kernel
theorem dL_law_1028 : decode cL_law 1028 = .ok (.iadd, 1) := by decide +kernel
theorem dL_law_1029 : decode cL_law 1029 = .ok (.iaload, 1) := by decide +kernel
theorem dL_law_1030 : decode cL_law 1030 = .ok (.aload_n 0, 1) := by decide +kernel
theorem dL_law_1031 : decode cL_law 1031 = .ok (.iload_n 3, 1) := by decide +kernel
theorem dL_law_1032 : decode cL_law 1032 = .ok (.iconst 2, 1) := by decide +kernel
theorem dL_law_1033 : decode cL_law 1033 = .ok (.iadd, 1) := by decide +kernel
theorem dL_law_1034 : decode cL_law 1034 = .ok (.iaload, 1) := by decide +kernel
theorem dL_law_1035 : decode cL_law 1035 = .ok (.invokevirtual 133, 3) := by decide +kernel
theorem dL_law_1038 : decode cL_law 1038 = .ok (.if_icmp .eq 297, 3) := by decide +kernel
theorem dL_law_1041 : decode cL_law 1041 = .ok (.iconst 0, 1) := by decide +kernel
theorem dL_law_1042 : decode cL_law 1042 = .ok (.ireturn, 1) := by decide +kernel
theorem dL_law_1043 : decode cL_law 1043 = .ok (.aload_n 1, 1) := by decide +kernel
theorem dL_law_1044 : decode cL_law 1044 = .ok (.aload_n 0, 1) := by decide +kernel
theorem dL_law_1045 : decode cL_law 1045 = .ok (.iload_n 3, 1) := by decide +kernel
theorem dL_law_1046 : decode cL_law 1046 = .ok (.iconst 1, 1) := by decide +kernel
theorem dL_law_1047 : decode cL_law 1047 = .ok (.iadd, 1) := by decide +kernel
theorem dL_law_1048 : decode cL_law 1048 = .ok (.iaload, 1) := by decide +kernel
theorem dL_law_1049 : decode cL_law 1049 = .ok (.invokevirtual 134, 3) := by decide +kernel
theorem dL_law_1052 : decode cL_law 1052 = .ok (.aload_n 2, 1) := by decide +kernel
theorem dL_law_1053 : decode cL_law 1053 = .ok (.aload_n 0, 1) := by decide +kernel
theorem dL_law_1054 : decode cL_law 1054 = .ok (.iload_n 3, 1) := by decide +kernel
theorem dL_law_1055 : decode cL_law 1055 = .ok (.iconst 1, 1) := by decide +kernel
theorem dL_law_1056 : decode cL_law 1056 = .ok (.iadd, 1) := by decide +kernel
theorem dL_law_1057 : decode cL_law 1057 = .ok (.iaload, 1) := by decide +kernel
theorem dL_law_1058 : decode cL_law 1058 = .ok (.invokevirtual 137, 3) := by decide +kernel
theorem dL_law_1061 : decode cL_law 1061 = .ok (.if_icmp .eq 274, 3) := by decide +kernel
theorem dL_law_1064 : decode cL_law 1064 = .ok (.iconst 0, 1) := by decide +kernel
theorem dL_law_1065 : decode cL_law 1065 = .ok (.ireturn, 1) := by decide +kernel
theorem dL_law_1066 : decode cL_law 1066 = .ok (.aload_n 1, 1) := by decide +kernel
theorem dL_law_1067 : decode cL_law 1067 = .ok (.invokevirtual 138, 3) := by decide +kernel
theorem dL_law_1070 : decode cL_law 1070 = .ok (.aload_n 2, 1) := by decide +kernel
theorem dL_law_1071 : decode cL_law 1071 = .ok (.invokevirtual 141, 3) := by decide +kernel
theorem dL_law_1074 : decode cL_law 1074 = .ok (.if_icmp .eq 261, 3) := by decide +kernel
theorem dL_law_1077 : decode cL_law 1077 = .ok (.iconst 0, 1) := by decide +kernel
theorem dL_law_1078 : decode cL_law 1078 = .ok (.ireturn, 1) := by decide +kernel
theorem dL_law_1079 : decode cL_law 1079 = .ok (.aload_n 1, 1) := by decide +kernel
theorem dL_law_1080 : decode cL_law 1080 = .ok (.invokevirtual 142, 3) := by decide +kernel
theorem dL_law_1083 : decode cL_law 1083 = .ok (.aload_n 2, 1) := by decide +kernel
theorem dL_law_1084 : decode cL_law 1084 = .ok (.invokevirtual 145, 3) := by decide +kernel
theorem dL_law_1087 : decode cL_law 1087 = .ok (.if_icmp .eq 248, 3) := by decide +kernel
theorem dL_law_1090 : decode cL_law 1090 = .ok (.iconst 0, 1) := by decide +kernel
theorem dL_law_1091 : decode cL_law 1091 = .ok (.ireturn, 1) := by decide +kernel
theorem dL_law_1092 : decode cL_law 1092 = .ok (.aload_n 1, 1) := by decide +kernel
theorem dL_law_1093 : decode cL_law 1093 = .ok (.aload_n 0, 1) := by decide +kernel
theorem dL_law_1094 : decode cL_law 1094 = .ok (.iload_n 3, 1) := by decide +kernel
theorem dL_law_1095 : decode cL_law 1095 = .ok (.iconst 1, 1) := by decide +kernel
theorem dL_law_1096 : decode cL_law 1096 = .ok (.iadd, 1) := by decide +kernel
theorem dL_law_1097 : decode cL_law 1097 = .ok (.iaload, 1) := by decide +kernel
theorem dL_law_1098 : decode cL_law 1098 = .ok (.aload_n 0, 1) := by decide +kernel
theorem dL_law_1099 : decode cL_law 1099 = .ok (.iload_n 3, 1) := by decide +kernel
theorem dL_law_1100 : decode cL_law 1100 = .ok (.iconst 2, 1) := by decide +kernel
theorem dL_law_1101 : decode cL_law 1101 = .ok (.iadd, 1) := by decide +kernel
theorem dL_law_1102 : decode cL_law 1102 = .ok (.iaload, 1) := by decide +kernel
theorem dL_law_1103 : decode cL_law 1103 = .ok (.aload_n 0, 1) := by decide +kernel
theorem dL_law_1104 : decode cL_law 1104 = .ok (.iload_n 3, 1) := by decide +kernel
theorem dL_law_1105 : decode cL_law 1105 = .ok (.iconst 3, 1) := by decide +kernel
theorem dL_law_1106 : decode cL_law 1106 = .ok (.iadd, 1) := by decide +kernel
theorem dL_law_1107 : decode cL_law 1107 = .ok (.iaload, 1) := by decide +kernel
theorem dL_law_1108 : decode cL_law 1108 = .ok (.invokevirtual 146, 3) := by decide +kernel
theorem dL_law_1111 : decode cL_law 1111 = .ok (.aload_n 2, 1) := by decide +kernel
theorem dL_law_1112 : decode cL_law 1112 = .ok (.aload_n 0, 1) := by decide +kernel
theorem dL_law_1113 : decode cL_law 1113 = .ok (.iload_n 3, 1) := by decide +kernel
theorem dL_law_1114 : decode cL_law 1114 = .ok (.iconst 1, 1) := by decide +kernel
theorem dL_law_1115 : decode cL_law 1115 = .ok (.iadd, 1) := by decide +kernel
theorem dL_law_1116 : decode cL_law 1116 = .ok (.iaload, 1) := by decide +kernel
theorem dL_law_1117 : decode cL_law 1117 = .ok (.aload_n 0, 1) := by decide +kernel
theorem dL_law_1118 : decode cL_law 1118 = .ok (.iload_n 3, 1) := by decide +kernel
theorem dL_law_1119 : decode cL_law 1119 = .ok (.iconst 2, 1) := by decide +kernel
theorem dL_law_1120 : decode cL_law 1120 = .ok (.iadd, 1) := by decide +kernel
theorem dL_law_1121 : decode cL_law 1121 = .ok (.iaload, 1) := by decide +kernel
theorem dL_law_1122 : decode cL_law 1122 = .ok (.aload_n 0, 1) := by decide +kernel
theorem dL_law_1123 : decode cL_law 1123 = .ok (.iload_n 3, 1) := by decide +kernel
theorem dL_law_1124 : decode cL_law 1124 = .ok (.iconst 3, 1) := by decide +kernel
theorem dL_law_1125 : decode cL_law 1125 = .ok (.iadd, 1) := by decide +kernel
theorem dL_law_1126 : decode cL_law 1126 = .ok (.iaload, 1) := by decide +kernel
theorem dL_law_1127 : decode cL_law 1127 = .ok (.invokevirtual 149, 3) := by decide +kernel
theorem dL_law_1130 : decode cL_law 1130 = .ok (.if_icmp .eq 205, 3) := by decide +kernel
theorem dL_law_1133 : decode cL_law 1133 = .ok (.iconst 0, 1) := by decide +kernel
theorem dL_law_1134 : decode cL_law 1134 = .ok (.ireturn, 1) := by decide +kernel
theorem dL_law_1135 : decode cL_law 1135 = .ok (.aload_n 1, 1) := by decide +kernel
theorem dL_law_1136 : decode cL_law 1136 = .ok (.aload_n 0, 1) := by decide +kernel
theorem dL_law_1137 : decode cL_law 1137 = .ok (.iload_n 3, 1) := by decide +kernel
theorem dL_law_1138 : decode cL_law 1138 = .ok (.iconst 1, 1) := by decide +kernel
theorem dL_law_1139 : decode cL_law 1139 = .ok (.iadd, 1) := by decide +kernel
theorem dL_law_1140 : decode cL_law 1140 = .ok (.iaload, 1) := by decide +kernel
theorem dL_law_1141 : decode cL_law 1141 = .ok (.aload_n 0, 1) := by decide +kernel
theorem dL_law_1142 : decode cL_law 1142 = .ok (.iload_n 3, 1) := by decide +kernel
theorem dL_law_1143 : decode cL_law 1143 = .ok (.iconst 2, 1) := by decide +kernel
theorem dL_law_1144 : decode cL_law 1144 = .ok (.iadd, 1) := by decide +kernel
theorem dL_law_1145 : decode cL_law 1145 = .ok (.iaload, 1) := by decide +kernel
theorem dL_law_1146 : decode cL_law 1146 = .ok (.aload_n 0, 1) := by decide +kernel
theorem dL_law_1147 : decode cL_law 1147 = .ok (.iload_n 3, 1) := by decide +kernel
theorem dL_law_1148 : decode cL_law 1148 = .ok (.iconst 3, 1) := by decide +kernel
theorem dL_law_1149 : decode cL_law 1149 = .ok (.iadd, 1) := by decide +kernel
theorem dL_law_1150 : decode cL_law 1150 = .ok (.iaload, 1) := by decide +kernel
theorem dL_law_1151 : decode cL_law 1151 = .ok (.aload_n 0, 1) := by decide +kernel
theorem dL_law_1152 : decode cL_law 1152 = .ok (.iload_n 3, 1) := by decide +kernel
theorem dL_law_1153 : decode cL_law 1153 = .ok (.iconst 4, 1) := by decide +kernel
theorem dL_law_1154 : decode cL_law 1154 = .ok (.iadd, 1) := by decide +kernel
theorem dL_law_1155 : decode cL_law 1155 = .ok (.iaload, 1) := by decide +kernel
theorem dL_law_1156 : decode cL_law 1156 = .ok (.invokevirtual 150, 3) := by decide +kernel
theorem dL_law_1159 : decode cL_law 1159 = .ok (.aload_n 2, 1) := by decide +kernel
theorem dL_law_1160 : decode cL_law 1160 = .ok (.aload_n 0, 1) := by decide +kernel
theorem dL_law_1161 : decode cL_law 1161 = .ok (.iload_n 3, 1) := by decide +kernel
theorem dL_law_1162 : decode cL_law 1162 = .ok (.iconst 1, 1) := by decide +kernel
theorem dL_law_1163 : decode cL_law 1163 = .ok (.iadd, 1) := by decide +kernel
theorem dL_law_1164 : decode cL_law 1164 = .ok (.iaload, 1) := by decide +kernel
theorem dL_law_1165 : decode cL_law 1165 = .ok (.aload_n 0, 1) := by decide +kernel
theorem dL_law_1166 : decode cL_law 1166 = .ok (.iload_n 3, 1) := by decide +kernel
theorem dL_law_1167 : decode cL_law 1167 = .ok (.iconst 2, 1) := by decide +kernel
theorem dL_law_1168 : decode cL_law 1168 = .ok (.iadd, 1) := by decide +kernel
theorem dL_law_1169 : decode cL_law 1169 = .ok (.iaload, 1) := by decide +kernel
theorem dL_law_1170 : decode cL_law 1170 = .ok (.aload_n 0, 1) := by decide +kernel
theorem dL_law_1171 : decode cL_law 1171 = .ok (.iload_n 3, 1) := by decide +kernel
theorem dL_law_1172 : decode cL_law 1172 = .ok (.iconst 3, 1) := by decide +kernel
theorem dL_law_1173 : decode cL_law 1173 = .ok (.iadd, 1) := by decide +kernel
theorem dL_law_1174 : decode cL_law 1174 = .ok (.iaload, 1) := by decide +kernel
theorem dL_law_1175 : decode cL_law 1175 = .ok (.aload_n 0, 1) := by decide +kernel
theorem dL_law_1176 : decode cL_law 1176 = .ok (.iload_n 3, 1) := by decide +kernel
theorem dL_law_1177 : decode cL_law 1177 = .ok (.iconst 4, 1) := by decide +kernel
theorem dL_law_1178 : decode cL_law 1178 = .ok (.iadd, 1) := by decide +kernel
theorem dL_law_1179 : decode cL_law 1179 = .ok (.iaload, 1) := by decide +kernel
theorem dL_law_1180 : decode cL_law 1180 = .ok (.invokevirtual 154, 3) := by decide +kernel
theorem dL_law_1183 : decode cL_law 1183 = .ok (.if_icmp .eq 152, 3) := by decide +kernel
theorem dL_law_1186 : decode cL_law 1186 = .ok (.iconst 0, 1) := by decide +kernel
theorem dL_law_1187 : decode cL_law 1187 = .ok (.ireturn, 1) := by decide +kernel
theorem dL_law_1188 : decode cL_law 1188 = .ok (.aload_n 1, 1) := by decide +kernel
theorem dL_law_1189 : decode cL_law 1189 = .ok (.aload_n 0, 1) := by decide +kernel
theorem dL_law_1190 : decode cL_law 1190 = .ok (.iload_n 3, 1) := by decide +kernel
theorem dL_law_1191 : decode cL_law 1191 = .ok (.iconst 1, 1) := by decide +kernel
theorem dL_law_1192 : decode cL_law 1192 = .ok (.iadd, 1) := by decide +kernel
theorem dL_law_1193 : decode cL_law 1193 = .ok (.iaload, 1) := by decide +kernel
theorem dL_law_1194 : decode cL_law 1194 = .ok (.aload_n 0, 1) := by decide +kernel
theorem dL_law_1195 : decode cL_law 1195 = .ok (.iload_n 3, 1) := by decide +kernel
theorem dL_law_1196 : decode cL_law 1196 = .ok (.iconst 2, 1) := by decide +kernel
theorem dL_law_1197 : decode cL_law 1197 = .ok (.iadd, 1) := by decide +kernel
theorem dL_law_1198 : decode cL_law 1198 = .ok (.iaload, 1) := by decide +kernel
theorem dL_law_1199 : decode cL_law 1199 = .ok (.invokevirtual 155, 3) := by decide +kernel
theorem dL_law_1202 : decode cL_law 1202 = .ok (.aload_n 2, 1) := by decide +kernel
theorem dL_law_1203 : decode cL_law 1203 = .ok (.aload_n 0, 1) := by decide +kernel
theorem dL_law_1204 : decode cL_law 1204 = .ok (.iload_n 3, 1) := by decide +kernel
theorem dL_law_1205 : decode cL_law 1205 = .ok (.iconst 1, 1) := by decide +kernel
theorem dL_law_1206 : decode cL_law 1206 = .ok (.iadd, 1) := by decide +kernel
theorem dL_law_1207 : decode cL_law 1207 = .ok (.iaload, 1) := by decide +kernel
theorem dL_law_1208 : decode cL_law 1208 = .ok (.aload_n 0, 1) := by decide +kernel
theorem dL_law_1209 : decode cL_law 1209 = .ok (.iload_n 3, 1) := by decide +kernel
theorem dL_law_1210 : decode cL_law 1210 = .ok (.iconst 2, 1) := by decide +kernel
theorem dL_law_1211 : decode cL_law 1211 = .ok (.iadd, 1) := by decide +kernel
theorem dL_law_1212 : decode cL_law 1212 = .ok (.iaload, 1) := by decide +kernel
theorem dL_law_1213 : decode cL_law 1213 = .ok (.invokevirtual 158, 3) := by decide +kernel
theorem dL_law_1216 : decode cL_law 1216 = .ok (.if_icmp .eq 119, 3) := by decide +kernel
theorem dL_law_1219 : decode cL_law 1219 = .ok (.iconst 0, 1) := by decide +kernel
theorem dL_law_1220 : decode cL_law 1220 = .ok (.ireturn, 1) := by decide +kernel
theorem dL_law_1221 : decode cL_law 1221 = .ok (.aload_n 1, 1) := by decide +kernel
theorem dL_law_1222 : decode cL_law 1222 = .ok (.invokevirtual 159, 3) := by decide +kernel
theorem dL_law_1225 : decode cL_law 1225 = .ok (.aload_n 2, 1) := by decide +kernel
theorem dL_law_1226 : decode cL_law 1226 = .ok (.invokevirtual 162, 3) := by decide +kernel
theorem dL_law_1229 : decode cL_law 1229 = .ok (.if_icmp .eq 106, 3) := by decide +kernel
theorem dL_law_1232 : decode cL_law 1232 = .ok (.iconst 0, 1) := by decide +kernel
theorem dL_law_1233 : decode cL_law 1233 = .ok (.ireturn, 1) := by decide +kernel
theorem dL_law_1234 : decode cL_law 1234 = .ok (.aload_n 1, 1) := by decide +kernel
theorem dL_law_1235 : decode cL_law 1235 = .ok (.invokevirtual 163, 3) := by decide +kernel
theorem dL_law_1238 : decode cL_law 1238 = .ok (.aload_n 2, 1) := by decide +kernel
theorem dL_law_1239 : decode cL_law 1239 = .ok (.invokevirtual 167, 3) := by decide +kernel
theorem dL_law_1242 : decode cL_law 1242 = .ok (.lcmp, 1) := by decide +kernel
theorem dL_law_1243 : decode cL_law 1243 = .ok (.ifCond .eq 92, 3) := by decide +kernel
theorem dL_law_1246 : decode cL_law 1246 = .ok (.iconst 0, 1) := by decide +kernel
theorem dL_law_1247 : decode cL_law 1247 = .ok (.ireturn, 1) := by decide +kernel
theorem dL_law_1248 : decode cL_law 1248 = .ok (.aload_n 1, 1) := by decide +kernel
theorem dL_law_1249 : decode cL_law 1249 = .ok (.invokevirtual 168, 3) := by decide +kernel
theorem dL_law_1252 : decode cL_law 1252 = .ok (.aload_n 2, 1) := by decide +kernel
theorem dL_law_1253 : decode cL_law 1253 = .ok (.invokevirtual 171, 3) := by decide +kernel
theorem dL_law_1256 : decode cL_law 1256 = .ok (.lcmp, 1) := by decide +kernel
theorem dL_law_1257 : decode cL_law 1257 = .ok (.ifCond .eq 78, 3) := by decide +kernel
theorem dL_law_1260 : decode cL_law 1260 = .ok (.iconst 0, 1) := by decide +kernel
theorem dL_law_1261 : decode cL_law 1261 = .ok (.ireturn, 1) := by decide +kernel
theorem dL_law_1262 : decode cL_law 1262 = .ok (.aload_n 1, 1) := by decide +kernel
theorem dL_law_1263 : decode cL_law 1263 = .ok (.aload_n 0, 1) := by decide +kernel
theorem dL_law_1264 : decode cL_law 1264 = .ok (.iload_n 3, 1) := by decide +kernel
theorem dL_law_1265 : decode cL_law 1265 = .ok (.iconst 1, 1) := by decide +kernel
theorem dL_law_1266 : decode cL_law 1266 = .ok (.iadd, 1) := by decide +kernel
theorem dL_law_1267 : decode cL_law 1267 = .ok (.iaload, 1) := by decide +kernel
theorem dL_law_1268 : decode cL_law 1268 = .ok (.invokevirtual 172, 3) := by decide +kernel
theorem dL_law_1271 : decode cL_law 1271 = .ok (.aload_n 2, 1) := by decide +kernel
theorem dL_law_1272 : decode cL_law 1272 = .ok (.aload_n 0, 1) := by decide +kernel
theorem dL_law_1273 : decode cL_law 1273 = .ok (.iload_n 3, 1) := by decide +kernel
theorem dL_law_1274 : decode cL_law 1274 = .ok (.iconst 1, 1) := by decide +kernel
theorem dL_law_1275 : decode cL_law 1275 = .ok (.iadd, 1) := by decide +kernel
theorem dL_law_1276 : decode cL_law 1276 = .ok (.iaload, 1) := by decide +kernel
theorem dL_law_1277 : decode cL_law 1277 = .ok (.invokevirtual 175, 3) := by decide +kernel
theorem dL_law_1280 : decode cL_law 1280 = .ok (.if_icmp .eq 55, 3) := by decide +kernel
theorem dL_law_1283 : decode cL_law 1283 = .ok (.iconst 0, 1) := by decide +kernel
theorem dL_law_1284 : decode cL_law 1284 = .ok (.ireturn, 1) := by decide +kernel
theorem dL_law_1285 : decode cL_law 1285 = .ok (.aload_n 1, 1) := by decide +kernel
theorem dL_law_1286 : decode cL_law 1286 = .ok (.invokevirtual 176, 3) := by decide +kernel
theorem dL_law_1289 : decode cL_law 1289 = .ok (.aload_n 2, 1) := by decide +kernel
theorem dL_law_1290 : decode cL_law 1290 = .ok (.invokevirtual 179, 3) := by decide +kernel
theorem dL_law_1293 : decode cL_law 1293 = .ok (.if_icmp .eq 42, 3) := by decide +kernel
theorem dL_law_1296 : decode cL_law 1296 = .ok (.iconst 0, 1) := by decide +kernel
theorem dL_law_1297 : decode cL_law 1297 = .ok (.ireturn, 1) := by decide +kernel
theorem dL_law_1298 : decode cL_law 1298 = .ok (.aload_n 1, 1) := by decide +kernel
theorem dL_law_1299 : decode cL_law 1299 = .ok (.aload_n 0, 1) := by decide +kernel
theorem dL_law_1300 : decode cL_law 1300 = .ok (.iload_n 3, 1) := by decide +kernel
theorem dL_law_1301 : decode cL_law 1301 = .ok (.iconst 1, 1) := by decide +kernel
theorem dL_law_1302 : decode cL_law 1302 = .ok (.iadd, 1) := by decide +kernel
theorem dL_law_1303 : decode cL_law 1303 = .ok (.iaload, 1) := by decide +kernel
theorem dL_law_1304 : decode cL_law 1304 = .ok (.invokevirtual 180, 3) := by decide +kernel
theorem dL_law_1307 : decode cL_law 1307 = .ok (.aload_n 2, 1) := by decide +kernel
theorem dL_law_1308 : decode cL_law 1308 = .ok (.aload_n 0, 1) := by decide +kernel
theorem dL_law_1309 : decode cL_law 1309 = .ok (.iload_n 3, 1) := by decide +kernel
theorem dL_law_1310 : decode cL_law 1310 = .ok (.iconst 1, 1) := by decide +kernel
theorem dL_law_1311 : decode cL_law 1311 = .ok (.iadd, 1) := by decide +kernel
theorem dL_law_1312 : decode cL_law 1312 = .ok (.iaload, 1) := by decide +kernel
theorem dL_law_1313 : decode cL_law 1313 = .ok (.invokevirtual 183, 3) := by decide +kernel
theorem dL_law_1316 : decode cL_law 1316 = .ok (.if_icmp .eq 19, 3) := by decide +kernel
theorem dL_law_1319 : decode cL_law 1319 = .ok (.iconst 0, 1) := by decide +kernel
theorem dL_law_1320 : decode cL_law 1320 = .ok (.ireturn, 1) := by decide +kernel
theorem dL_law_1321 : decode cL_law 1321 = .ok (.aload_n 1, 1) := by decide +kernel
theorem dL_law_1322 : decode cL_law 1322 = .ok (.invokevirtual 184, 3) := by decide +kernel
theorem dL_law_1325 : decode cL_law 1325 = .ok (.aload_n 2, 1) := by decide +kernel
theorem dL_law_1326 : decode cL_law 1326 = .ok (.invokevirtual 187, 3) := by decide +kernel
theorem dL_law_1329 : decode cL_law 1329 = .ok (.lcmp, 1) := by decide +kernel
theorem dL_law_1330 : decode cL_law 1330 = .ok (.ifCond .eq 5, 3) := by decide +kernel
theorem dL_law_1333 : decode cL_law 1333 = .ok (.iconst 0, 1) := by decide +kernel
theorem dL_law_1334 : decode cL_law 1334 = .ok (.ireturn, 1) := by decide +kernel
theorem dL_law_1335 : decode cL_law 1335 = .ok (.iinc 3 6, 3) := by decide +kernel
theorem dL_law_1338 : decode cL_law 1338 = .ok (.goto (-1320), 3) := by decide +kernel
theorem dL_law_1341 : decode cL_law 1341 = .ok (.iconst 1, 1) := by decide +kernel
theorem dL_law_1342 : decode cL_law 1342 = .ok (.ireturn, 1) := by decide +kernel
end
section
/-! PART judge: abstract heaps, values, the world at a state, the judgement of a method's body, contracts -/
abbrev cm_Sh : Type := Nat ⊕ (Nat × Nat)
abbrev cm_H : Type := List cm_Sh × (Nat → Nat → Int32) × (Nat → Nat → Int64) × (Nat → Nat → Option Nat)
abbrev cm_D : Type := (Nat × Nat × Nat × Nat) × (Nat → Int32) × (Nat → ClassId) × (Nat → Nat → Nat) × (Nat → ClassId)
abbrev cm_M : Type := MethodName × ByteArray × Nat × Option FieldType
def cm_b (D : cm_D) : Nat := D.1.1
def cm_L (D : cm_D) : Nat := D.1.2.1
def cm_lt (D : cm_D) : Nat := D.1.2.2.1
def cm_b0 (D : cm_D) : Nat := D.1.2.2.2
def cm_xs (D : cm_D) : Nat → Int32 := D.2.1
abbrev cm_G (D : cm_D) : va_G := (D.2.2.1, D.2.2.2.1)
def cm_cA (D : cm_D) : Nat → ClassId := D.2.2.2.2
def cm_A (D : cm_D) : Nat → Prop := fun q => cm_b0 D ≤ q
def cm_letters : Nat → Int32 := fun j => match j with
  | 0 => 98
  | 1 => 114
  | 2 => 100
  | 3 => 99
  | 4 => 116
  | _ => 112
/-- the machine's address of an abstract one: 0 the script, 1 the letters, then the cells in the order of their making -/
def cm_ad (D : cm_D) : Nat → Nat
  | 0 => cm_b D
  | 1 => cm_lt D
  | k + 2 => cm_b0 D + k
def cm_v (D : cm_D) : Value → Value
  | .ref k => .ref (cm_ad D k)
  | .int x => .int x
  | .long x => .long x
  | .float x => .float x
  | .double x => .double x
  | .null => .null
  | .retAddr x => .retAddr x
def cm_rf (r : Option Nat) : Value := match r with
  | none => .null
  | some a => .ref a
theorem cm_rf_v (D : cm_D) (r : Option Nat) : cm_v D (cm_rf r) = va_rf (r.map (cm_ad D)) := by cases r <;> rfl
theorem cm_v_cat (D : cm_D) (v : Value) : (cm_v D v).category = v.category := by cases v <;> rfl
/-- an array's kind: the type of its places -/
def cm_et : Nat → FieldType
  | 0 => .int
  | 1 => .long
  | 2 => .object RX4
  | _ => .object RX2
def cm_fv (h : cm_H) (k j t : Nat) : Value := match t with
  | 0 => .int (h.2.1 k j)
  | 1 => .long (h.2.2.1 k j)
  | _ => cm_rf (h.2.2.2 k j)
/-- the kinds of a class's fields: 0 int, 1 long, 2 a reference -/
def cm_ft : Nat → List Nat
  | 0 => [2, 2, 2, 0]
  | 1 => [2, 0]
  | 2 => [0, 0, 0, 0, 2, 2, 2, 2, 2, 2, 2, 2, 2, 2]
  | 3 => [2, 2, 0, 0]
  | 4 => [2, 0]
  | 5 => [2, 2, 0, 0]
  | 6 => [2, 2, 2, 2, 2, 2, 2, 2, 2, 0, 0]
  | 7 => [0, 2, 0, 2, 2, 2, 2, 2, 0, 0, 0, 2, 2, 2, 2, 2, 2, 2, 2, 0, 0, 0, 0, 0, 0, 0, 0, 0, 2, 2, 2, 0, 0, 0, 2, 0, 0, 2, 2, 2, 0, 0, 2, 1]
  | _ => []
def cm_fs (D : cm_D) (h : cm_H) (ci k : Nat) : List Value := (cm_ft ci).mapIdx (fun j t => cm_v D (cm_fv h k j t))
def cm_arr (D : cm_D) (h : cm_H) (k t n : Nat) : vp_A := match t with
  | 0 => (n, .inl (h.2.1 k))
  | 1 => (n, .inr (.inl (h.2.2.1 k)))
  | _ => (n, .inr (.inr (.inr (.inr (fun j => (h.2.2.2 k j).map (cm_ad D))))))
def cm_cell (D : cm_D) (h : cm_H) (k : Nat) : cm_Sh → va_E
  | .inl ci => .inr (ci, cm_fs D h ci k)
  | .inr (t, n) => .inl (cm_cA D t, cm_arr D h k t n)
/-- the heap holds the abstract one -/
def cm_P (D : cm_D) (h : cm_H) (H : Heap) : Prop := (2 ≤ h.1.length ∧ H.size + 2 = cm_b0 D + h.1.length) ∧ ∀ (k : Nat) (q : cm_Sh), h.1[k + 2]? = some q → va_at (cm_G D) vwCl (cm_b0 D + k, cm_cell D h (k + 2) q) H
def cm_isNest : Cond → Bool
  | .methodLinkNest .. => true
  | .fieldLinkNest .. => true
  | _ => false
def cm_nest : List Cond := lw_tbl.filter cm_isNest
def cm_good : List Cond := lw_tbl.filter goodWord
/-- what the tables say, and stays -/
def cm_K0 (D : cm_D) (U : State) : Prop := (∀ (c : Nat) (q : vw_C), vwCl[c]? = some q → u_Kn U q.1 q.2.1 q.2.2 ((cm_G D).1 c) ((cm_G D).2 c)) ∧ (∀ t : Nat, cm_cA D t = (U.vm.findClass ("[" ++ (cm_et t).toString)).getD 0) ∧ (∀ w ∈ cm_nest, va_Nw w U) ∧ va_AO RX4 U ∧ va_AO RX2 U
/-- what is known of the classes of the arrays that are there -/
def cm_K1 (D : cm_D) (h : cm_H) (U : State) : Prop := ∀ (k t n : Nat), h.1[k + 2]? = some (.inr (t, n)) → ArrOfT U (cm_cA D t) (cm_et t) ∧ va_RA U (cm_cA D t) (cm_et t)
/-- what stood before the law began: the script, the letters -/
def cm_X (D : cm_D) (U : State) : Prop := cm_b0 D ≤ U.heap.size ∧ (va_X (cm_b D) (cm_L D) (cm_xs D) U U.heap ∧ cm_b D < cm_b0 D) ∧ (va_X (cm_lt D) 6 cm_letters U U.heap ∧ cm_lt D < cm_b0 D) ∧ va_Z RX3 "LETTERS" "[I" (.ref (cm_lt D)) (cm_A D) U U.heap
def cm_W (D : cm_D) (h : cm_H) (U : State) : Prop := cm_P D h U.heap ∧ cm_K1 D h U ∧ cm_K0 D U ∧ cm_X D U
/-- a method's end -/
def cm_Q (D : cm_D) (Q : Option Value → cm_H → Prop) : Array Value → State → Outcome → State → Prop := fun _ st oc t => (∃ (r : Option Value) (h : cm_H), oc = .returned (r.map (cm_v D)) ∧ Q r h ∧ cm_P D h t.heap ∧ cm_K1 D h t) ∧ va_F (cm_A D) st t
def cm_lv (D : cm_D) (lsA : Array Slot) (nL : Nat) (ls : List (Option Value)) : Prop := lsA.size = nL ∧ lv_wf lsA ∧ ∀ (i : Nat) (v : Value), ls[i]? = some (some v) → lsA[i]? = some (.val (cm_v D v))
/-- a method's own frame, and its room -/
def cm_E (D : cm_D) (M : cm_M) (d rc rs : Nat) (p : Program) (R : Room) (s : State) (m : MethodId) (args : Array Value) (meth : Method) (c : Code) : Prop :=
  p.tables.exec = Jvm.exec ∧ c.code = M.2.1 ∧ meth.sig.returnType = M.2.2.2 ∧ c.maxLocals = M.2.2.1 ∧ s.vm.findClass M.1.cls = some m.cls ∧ (∀ w ∈ cm_good, w.before args s = true) ∧ meth.locks = false ∧ meth.name = M.1.name ∧ (d ≤ R.frames ∧ 64 * d ≤ R.locals ∧ rc ≤ R.cells ∧ rs ≤ R.slots) ∧ cm_K0 D s ∧ cm_X D s
/-- THE JUDGEMENT: from pc, with these locals, this stack and this abstract heap, the method comes to an end with Q -/
def cm_g (D : cm_D) (M : cm_M) (d rc rs : Nat) (Q : Option Value → cm_H → Prop) (cells slots pc : Nat) (ls : List (Option Value)) (st : List Value) (h : cm_H) : Prop :=
  ∀ (p : Program) (l : Launch) (e : Env) (R : Room) (s : State) (m : MethodId) (args : Array Value) (below : List Frame) (meth : Method) (c : Code) (H : Heap) (locs : List Loc) (lsA : Array Slot), cm_E D M d rc rs p R s m args meth c → cm_P D h H → cm_K1 D h s → va_S (cm_A D) s.heap H locs → cm_lv D lsA M.2.2.1 ls →
    W p l e R s m args below meth c H locs cells slots (MQ below (cm_Q D Q) args s rc rs (cm_A D)) (F0 m pc lsA (st.map (cm_v D)))
abbrev cm_rm (d mc ms : Nat) : Room := { frames := d, cells := mc, slots := ms, locals := 64 * d }
/-- A CONTRACT: called with these arguments at this abstract heap, within d frames, making mc cells of ms slots -/
def cm_ct (D : cm_D) (M : cm_M) (d mc ms : Nat) (as : List Value) (h : cm_H) (Q : Option Value → cm_H → Prop) : Prop :=
  ∀ l : Launch, Met l M.1 (Cond.code M.1 M.2.1 M.2.2.1 M.2.2.2 :: cm_good) (cm_rm d mc ms) (va_Pc (as.map (cm_v D)) (cm_W D h)) (cm_Q D Q) mc ms (cm_A D)
end
section
/-! PART rows: moving the world's facts; a method's entry; rows of the judgement for instructions that touch no cell -/
theorem cm_A_lt {D : cm_D} {q : Nat} (h : q < cm_b0 D) : ¬ cm_A D q := Nat.not_le.mpr h
theorem cm_nest_on {w : Cond} (hw : w ∈ cm_nest) : w.onTables = true := by
  have hn := (List.mem_filter.mp hw).2
  cases w <;> first | rfl | (exact absurd hn (by simp [cm_isNest]))
theorem cm_K0.moved {D : cm_D} {s U : State} (hW : s.WarmedH U.vm) (h : cm_K0 D s) : cm_K0 D U := by
  obtain ⟨h1, h2, h3, h4, h5⟩ := h
  refine ⟨fun c q hq => u_Kn_moved hW.alike (h1 c q hq), fun t => by rw [h2 t, hW.alike.findClass], fun w hw => ?_, h4.moved hW.alike, h5.moved hW.alike⟩
  have hn := (List.mem_filter.mp hw).2
  have h0 := h3 w hw
  cases w <;> first | exact va_Nw.warmF hW h0 | exact va_Nw.warmM hW h0 | (exact absurd hn (by simp [cm_isNest]))
theorem cm_K0.same {D : cm_D} {u U : State} (e : u.vm = U.vm) (h : cm_K0 D u) : cm_K0 D U := by
  obtain ⟨h1, h2, h3, h4, h5⟩ := h
  have ha : u.vm.Alike U.vm := e ▸ Vm.Alike.refl _
  exact ⟨fun c q hq => u_Kn_moved ha (h1 c q hq), fun t => by rw [h2 t, e], fun w hw => va_Nw.same (cm_nest_on hw) e (h3 w hw), h4.moved ha, h5.moved ha⟩
theorem cm_K1.moved {D : cm_D} {h : cm_H} {s U : State} (hvm : s.vm.Alike U.vm) (hK : cm_K1 D h s) : cm_K1 D h U := fun k t n hk => ⟨arrOfT_moved hvm (hK k t n hk).1, (hK k t n hk).2.moved hvm⟩
theorem cm_X.moved {D : cm_D} {s U : State} (hvm : s.vm.Alike U.vm) (hz : s.heap.size ≤ U.heap.size) (hq : ∀ q : Nat, q < s.heap.size → ¬ cm_A D q → U.heap[q]? = s.heap[q]?) (h : cm_X D s) : cm_X D U := by
  obtain ⟨h0, ⟨h1, h1'⟩, ⟨h2, h2'⟩, h3⟩ := h
  exact ⟨Nat.le_trans h0 hz, ⟨(h1.moved hvm).kept (hq _ (Nat.lt_of_lt_of_le h1' h0) (cm_A_lt h1')), h1'⟩, ⟨(h2.moved hvm).kept (hq _ (Nat.lt_of_lt_of_le h2' h0) (cm_A_lt h2')), h2'⟩, (h3.moved hvm).kept hq⟩
/-- the locals at a method's entry -/
def cm_args : List Value → List (Option Value)
  | [] => []
  | .long x :: vs => some (.long x) :: none :: cm_args vs
  | .double x :: vs => some (.double x) :: none :: cm_args vs
  | .int x :: vs => some (.int x) :: cm_args vs
  | .float x :: vs => some (.float x) :: cm_args vs
  | .ref x :: vs => some (.ref x) :: cm_args vs
  | .null :: vs => some .null :: cm_args vs
  | .retAddr x :: vs => some (.retAddr x) :: cm_args vs
theorem cm_args_in (D : cm_D) : ∀ (vs : List Value) (j i : Nat) (v : Value), (cm_args vs)[i]? = some (some v) → (j + i, cm_v D v) ∈ lv_args j (vs.map (cm_v D))
  | [], _, i, v, h => by simp [cm_args] at h
  | a :: vs, j, i, v, h => by
    have key1 : ∀ (w : Value), w.category = 1 → cm_args (w :: vs) = some w :: cm_args vs → (cm_args (w :: vs))[i]? = some (some v) → (j + i, cm_v D v) ∈ lv_args j ((w :: vs).map (cm_v D)) := by
      intro w hc he hh
      rw [he] at hh
      show (j + i, cm_v D v) ∈ (j, cm_v D w) :: lv_args (if (cm_v D w).category = 2 then j + 2 else j + 1) (vs.map (cm_v D))
      rw [cm_v_cat, hc, if_neg (by decide)]
      cases i with
      | zero =>
        simp at hh
        subst hh
        exact List.mem_cons_self
      | succ i =>
        rw [List.getElem?_cons_succ] at hh
        have := cm_args_in D vs (j + 1) i v hh
        rw [show j + (i + 1) = j + 1 + i by omega]
        exact List.mem_cons_of_mem _ this
    have key2 : ∀ (w : Value), w.category = 2 → cm_args (w :: vs) = some w :: none :: cm_args vs → (cm_args (w :: vs))[i]? = some (some v) → (j + i, cm_v D v) ∈ lv_args j ((w :: vs).map (cm_v D)) := by
      intro w hc he hh
      rw [he] at hh
      show (j + i, cm_v D v) ∈ (j, cm_v D w) :: lv_args (if (cm_v D w).category = 2 then j + 2 else j + 1) (vs.map (cm_v D))
      rw [cm_v_cat, hc, if_pos rfl]
      match i, hh with
      | 0, hh =>
        simp at hh
        subst hh
        exact List.mem_cons_self
      | 1, hh => simp at hh
      | i + 2, hh =>
        rw [List.getElem?_cons_succ, List.getElem?_cons_succ] at hh
        have := cm_args_in D vs (j + 2) i v hh
        rw [show j + (i + 2) = j + 2 + i by omega]
        exact List.mem_cons_of_mem _ this
    cases a with
    | int x => exact key1 _ rfl rfl h
    | long x => exact key2 _ rfl rfl h
    | float x => exact key1 _ rfl rfl h
    | double x => exact key2 _ rfl rfl h
    | ref x => exact key1 _ rfl rfl h
    | null => exact key1 _ rfl rfl h
    | retAddr x => exact key1 _ rfl rfl h
theorem cm_sl_len (D : cm_D) : ∀ as : List Value, (lg_sl (as.map (cm_v D))).length = (lg_sl as).length
  | [] => rfl
  | a :: as => by
    have ih := cm_sl_len D as
    have e1 : (lg_sl (cm_v D a :: as.map (cm_v D))).length = (if (cm_v D a).category = 2 then 2 else 1) + (lg_sl (as.map (cm_v D))).length := by
      unfold lg_sl
      rw [List.flatMap_cons, List.length_append]
      by_cases q : (cm_v D a).category = 2 <;> simp [q]
    have e2 : (lg_sl (a :: as)).length = (if a.category = 2 then 2 else 1) + (lg_sl as).length := by
      unfold lg_sl
      rw [List.flatMap_cons, List.length_append]
      by_cases q : a.category = 2 <;> simp [q]
    rw [List.map_cons, e1, e2, cm_v_cat, ih]
/-- A CONTRACT OUT OF THE JUDGEMENT at the entry; n more locals stand unset -/
theorem cm_ct_of {D : cm_D} {M : cm_M} {d mc ms : Nat} {as : List Value} {h : cm_H} {Q : Option Value → cm_H → Prop} (n : Nat) {ls : List (Option Value)} (hpl : plainName M.1.cls = true) (hn : ((lg_sl as).length + n) = M.2.2.1) (hls : cm_args as ++ List.replicate n none = ls)
    (hg : cm_g D M d mc ms Q 0 0 0 ls [] h) : cm_ct D M d mc ms as h Q := by
  intro l
  refine Met.ofW (cc := M.2.1) (maxL := M.2.2.1) (ret := M.2.2.2) hpl rfl ?_
  intro p e s m args below meth c s₁ B hml hv
  obtain ⟨rfl, hP, hK1, hK0, hX⟩ := hv
  have hlen := cm_sl_len D as
  have hl := lv_entry (as.map (cm_v D)) (n := M.2.2.1) (by rw [hlen]; omega)
  rw [lg_entry_eq]
  generalize (lg_sl (as.map (cm_v D)) ++ List.replicate (M.2.2.1 - (lg_sl (as.map (cm_v D))).length) Slot.unset).toArray = lsA at hl ⊢
  have hlv : cm_lv D lsA M.2.2.1 ls := by
    refine ⟨hl.1, hl.2.1, fun i v hi => ?_⟩
    rw [← hls] at hi
    by_cases hlt : i < (cm_args as).length
    · rw [List.getElem?_append_left hlt] at hi
      have := cm_args_in D as 0 i v hi
      rw [Nat.zero_add] at this
      exact hl.2.2 _ this
    · rw [List.getElem?_append_right (by omega), List.getElem?_replicate] at hi
      split at hi <;> cases hi
  exact hg p l e _ s m _ below meth c s.heap [] lsA ⟨B.exec, B.bytes, B.returns, hml, findClass_of_methodNamed B.named, fun w hw => atoms_spec (ws := Cond.code M.1 M.2.1 M.2.2.1 M.2.2.2 :: cm_good) B.pre w (List.mem_cons_of_mem _ hw), B.notSynchronized, (name_of_methodNamed B.named B.method).1, ⟨Nat.le_refl _, Nat.le_refl _, Nat.le_refl _, Nat.le_refl _⟩, hK0, hX⟩ hP hK1 va_S.rf hlv
section CMR
variable {D : cm_D} {M : cm_M} {d rc rs : Nat} {Q : Option Value → cm_H → Prop} {cells slots pc : Nat} {ls : List (Option Value)} {st : List Value} {h : cm_H}

theorem cm_iconst {n : Int} {v : Int32} (hd : decode M.2.1 pc = .ok (.iconst n, 1)) (hv : Int32.ofInt n = v) (k : cm_g D M d rc rs Q cells slots (pc + 1) ls (.int v :: st) h) : cm_g D M d rc rs Q cells slots pc ls (st) h := fun p l e R s m args below meth c H locs lsA E hP hK hS hl => lv_iconst E.1 E.2.1 hd hv (k p l e R s m args below meth c H locs lsA E hP hK hS hl)
theorem cm_bipush {n : Int} {v : Int32} (hd : decode M.2.1 pc = .ok (.bipush n, 2)) (hv : (Int8.ofInt n).toInt32 = v) (k : cm_g D M d rc rs Q cells slots (pc + 2) ls (.int v :: st) h) : cm_g D M d rc rs Q cells slots pc ls (st) h := fun p l e R s m args below meth c H locs lsA E hP hK hS hl => lv_bipush E.1 E.2.1 hd hv (k p l e R s m args below meth c H locs lsA E hP hK hS hl)
theorem cm_sipush {n : Int} {v : Int32} (hd : decode M.2.1 pc = .ok (.sipush n, 3)) (hv : (Int16.ofInt n).toInt32 = v) (k : cm_g D M d rc rs Q cells slots (pc + 3) ls (.int v :: st) h) : cm_g D M d rc rs Q cells slots pc ls (st) h := fun p l e R s m args below meth c H locs lsA E hP hK hS hl => lv_sipush E.1 E.2.1 hd hv (k p l e R s m args below meth c H locs lsA E hP hK hS hl)
theorem cm_lconst {n : Fin 2} {v : Int64} (hd : decode M.2.1 pc = .ok (.lconst n, 1)) (hv : Int64.ofNat (n : Nat) = v) (k : cm_g D M d rc rs Q cells slots (pc + 1) ls (.long v :: st) h) : cm_g D M d rc rs Q cells slots pc ls (st) h := fun p l e R s m args below meth c H locs lsA E hP hK hS hl => lv_lconst E.1 E.2.1 hd hv (k p l e R s m args below meth c H locs lsA E hP hK hS hl)
theorem cm_iadd {x y : Int32} (hd : decode M.2.1 pc = .ok (.iadd, 1))  (k : cm_g D M d rc rs Q cells slots (pc + 1) ls (.int (x + y) :: st) h) : cm_g D M d rc rs Q cells slots pc ls (.int y :: .int x :: st) h := fun p l e R s m args below meth c H locs lsA E hP hK hS hl => lv_iadd E.1 E.2.1 hd (k p l e R s m args below meth c H locs lsA E hP hK hS hl)
theorem cm_isub {x y : Int32} (hd : decode M.2.1 pc = .ok (.isub, 1))  (k : cm_g D M d rc rs Q cells slots (pc + 1) ls (.int (x - y) :: st) h) : cm_g D M d rc rs Q cells slots pc ls (.int y :: .int x :: st) h := fun p l e R s m args below meth c H locs lsA E hP hK hS hl => lv_isub E.1 E.2.1 hd (k p l e R s m args below meth c H locs lsA E hP hK hS hl)
theorem cm_imul {x y : Int32} (hd : decode M.2.1 pc = .ok (.imul, 1))  (k : cm_g D M d rc rs Q cells slots (pc + 1) ls (.int (x * y) :: st) h) : cm_g D M d rc rs Q cells slots pc ls (.int y :: .int x :: st) h := fun p l e R s m args below meth c H locs lsA E hP hK hS hl => lv_imul E.1 E.2.1 hd (k p l e R s m args below meth c H locs lsA E hP hK hS hl)
theorem cm_iand {x y : Int32} (hd : decode M.2.1 pc = .ok (.iand, 1))  (k : cm_g D M d rc rs Q cells slots (pc + 1) ls (.int (x &&& y) :: st) h) : cm_g D M d rc rs Q cells slots pc ls (.int y :: .int x :: st) h := fun p l e R s m args below meth c H locs lsA E hP hK hS hl => lv_iand E.1 E.2.1 hd (k p l e R s m args below meth c H locs lsA E hP hK hS hl)
theorem cm_ior {x y : Int32} (hd : decode M.2.1 pc = .ok (.ior, 1))  (k : cm_g D M d rc rs Q cells slots (pc + 1) ls (.int (x ||| y) :: st) h) : cm_g D M d rc rs Q cells slots pc ls (.int y :: .int x :: st) h := fun p l e R s m args below meth c H locs lsA E hP hK hS hl => lv_ior E.1 E.2.1 hd (k p l e R s m args below meth c H locs lsA E hP hK hS hl)
theorem cm_ixor {x y : Int32} (hd : decode M.2.1 pc = .ok (.ixor, 1))  (k : cm_g D M d rc rs Q cells slots (pc + 1) ls (.int (x ^^^ y) :: st) h) : cm_g D M d rc rs Q cells slots pc ls (.int y :: .int x :: st) h := fun p l e R s m args below meth c H locs lsA E hP hK hS hl => lv_ixor E.1 E.2.1 hd (k p l e R s m args below meth c H locs lsA E hP hK hS hl)
theorem cm_ishl {x y : Int32} (hd : decode M.2.1 pc = .ok (.ishl, 1))  (k : cm_g D M d rc rs Q cells slots (pc + 1) ls (.int (x <<< (y &&& 31)) :: st) h) : cm_g D M d rc rs Q cells slots pc ls (.int y :: .int x :: st) h := fun p l e R s m args below meth c H locs lsA E hP hK hS hl => lv_ishl E.1 E.2.1 hd (k p l e R s m args below meth c H locs lsA E hP hK hS hl)
theorem cm_ishr {x y : Int32} (hd : decode M.2.1 pc = .ok (.ishr, 1))  (k : cm_g D M d rc rs Q cells slots (pc + 1) ls (.int (x >>> (y &&& 31)) :: st) h) : cm_g D M d rc rs Q cells slots pc ls (.int y :: .int x :: st) h := fun p l e R s m args below meth c H locs lsA E hP hK hS hl => lv_ishr E.1 E.2.1 hd (k p l e R s m args below meth c H locs lsA E hP hK hS hl)
theorem cm_iushr {x y : Int32} (hd : decode M.2.1 pc = .ok (.iushr, 1))  (k : cm_g D M d rc rs Q cells slots (pc + 1) ls (.int (x.toUInt32 >>> (y.toUInt32 &&& Int32.toUInt32 31)).toInt32 :: st) h) : cm_g D M d rc rs Q cells slots pc ls (.int y :: .int x :: st) h := fun p l e R s m args below meth c H locs lsA E hP hK hS hl => lv_iushr E.1 E.2.1 hd rfl (k p l e R s m args below meth c H locs lsA E hP hK hS hl)
theorem cm_ineg {x : Int32} (hd : decode M.2.1 pc = .ok (.ineg, 1))  (k : cm_g D M d rc rs Q cells slots (pc + 1) ls (.int (-x) :: st) h) : cm_g D M d rc rs Q cells slots pc ls (.int x :: st) h := fun p l e R s m args below meth c H locs lsA E hP hK hS hl => lv_ineg E.1 E.2.1 hd (k p l e R s m args below meth c H locs lsA E hP hK hS hl)
theorem cm_idiv {x y : Int32} (hd : decode M.2.1 pc = .ok (.idiv, 1)) (hne : ¬ y = 0) (k : cm_g D M d rc rs Q cells slots (pc + 1) ls (.int (x / y) :: st) h) : cm_g D M d rc rs Q cells slots pc ls (.int y :: .int x :: st) h := fun p l e R s m args below meth c H locs lsA E hP hK hS hl => lv_idiv E.1 E.2.1 hd hne (k p l e R s m args below meth c H locs lsA E hP hK hS hl)
theorem cm_irem {x y : Int32} (hd : decode M.2.1 pc = .ok (.irem, 1)) (hne : ¬ y = 0) (k : cm_g D M d rc rs Q cells slots (pc + 1) ls (.int (x - x / y * y) :: st) h) : cm_g D M d rc rs Q cells slots pc ls (.int y :: .int x :: st) h := fun p l e R s m args below meth c H locs lsA E hP hK hS hl => lv_irem E.1 E.2.1 hd hne (k p l e R s m args below meth c H locs lsA E hP hK hS hl)
theorem cm_ladd {x y : Int64} (hd : decode M.2.1 pc = .ok (.ladd, 1))  (k : cm_g D M d rc rs Q cells slots (pc + 1) ls (.long (x + y) :: st) h) : cm_g D M d rc rs Q cells slots pc ls (.long y :: .long x :: st) h := fun p l e R s m args below meth c H locs lsA E hP hK hS hl => lv_ladd E.1 E.2.1 hd (k p l e R s m args below meth c H locs lsA E hP hK hS hl)
theorem cm_lsub {x y : Int64} (hd : decode M.2.1 pc = .ok (.lsub, 1))  (k : cm_g D M d rc rs Q cells slots (pc + 1) ls (.long (x - y) :: st) h) : cm_g D M d rc rs Q cells slots pc ls (.long y :: .long x :: st) h := fun p l e R s m args below meth c H locs lsA E hP hK hS hl => lv_lsub E.1 E.2.1 hd (k p l e R s m args below meth c H locs lsA E hP hK hS hl)
theorem cm_lmul {x y : Int64} (hd : decode M.2.1 pc = .ok (.lmul, 1))  (k : cm_g D M d rc rs Q cells slots (pc + 1) ls (.long (x * y) :: st) h) : cm_g D M d rc rs Q cells slots pc ls (.long y :: .long x :: st) h := fun p l e R s m args below meth c H locs lsA E hP hK hS hl => lv_lmul E.1 E.2.1 hd (k p l e R s m args below meth c H locs lsA E hP hK hS hl)
theorem cm_ldiv {x y : Int64} (hd : decode M.2.1 pc = .ok (.ldiv, 1)) (hne : ¬ y = 0) (k : cm_g D M d rc rs Q cells slots (pc + 1) ls (.long (x / y) :: st) h) : cm_g D M d rc rs Q cells slots pc ls (.long y :: .long x :: st) h := fun p l e R s m args below meth c H locs lsA E hP hK hS hl => lv_ldiv E.1 E.2.1 hd hne (k p l e R s m args below meth c H locs lsA E hP hK hS hl)
theorem cm_lrem {x y : Int64} (hd : decode M.2.1 pc = .ok (.lrem, 1)) (hne : ¬ y = 0) (k : cm_g D M d rc rs Q cells slots (pc + 1) ls (.long (x - x / y * y) :: st) h) : cm_g D M d rc rs Q cells slots pc ls (.long y :: .long x :: st) h := fun p l e R s m args below meth c H locs lsA E hP hK hS hl => lv_lrem E.1 E.2.1 hd hne (k p l e R s m args below meth c H locs lsA E hP hK hS hl)
theorem cm_i2l {x : Int32} (hd : decode M.2.1 pc = .ok (.i2l, 1))  (k : cm_g D M d rc rs Q cells slots (pc + 1) ls (.long x.toInt64 :: st) h) : cm_g D M d rc rs Q cells slots pc ls (.int x :: st) h := fun p l e R s m args below meth c H locs lsA E hP hK hS hl => lv_i2l E.1 E.2.1 hd rfl (k p l e R s m args below meth c H locs lsA E hP hK hS hl)
theorem cm_l2i {x : Int64} (hd : decode M.2.1 pc = .ok (.l2i, 1))  (k : cm_g D M d rc rs Q cells slots (pc + 1) ls (.int x.toInt32 :: st) h) : cm_g D M d rc rs Q cells slots pc ls (.long x :: st) h := fun p l e R s m args below meth c H locs lsA E hP hK hS hl => lv_l2i E.1 E.2.1 hd rfl (k p l e R s m args below meth c H locs lsA E hP hK hS hl)
theorem cm_i2b {x : Int32} (hd : decode M.2.1 pc = .ok (.i2b, 1))  (k : cm_g D M d rc rs Q cells slots (pc + 1) ls (.int x.toInt8.toInt32 :: st) h) : cm_g D M d rc rs Q cells slots pc ls (.int x :: st) h := fun p l e R s m args below meth c H locs lsA E hP hK hS hl => lv_i2b E.1 E.2.1 hd rfl (k p l e R s m args below meth c H locs lsA E hP hK hS hl)
theorem cm_dup {v : Value} (hd : decode M.2.1 pc = .ok (.dup, 1)) (hc : v.category = 1) (k : cm_g D M d rc rs Q cells slots (pc + 1) ls (v :: v :: st) h) : cm_g D M d rc rs Q cells slots pc ls (v :: st) h := fun p l e R s m args below meth c H locs lsA E hP hK hS hl => lv_dup E.1 E.2.1 hd (by rw [cm_v_cat]; exact hc) (k p l e R s m args below meth c H locs lsA E hP hK hS hl)
theorem cm_pop {v : Value} (hd : decode M.2.1 pc = .ok (.pop, 1)) (hc : v.category = 1) (k : cm_g D M d rc rs Q cells slots (pc + 1) ls (st) h) : cm_g D M d rc rs Q cells slots pc ls (v :: st) h := fun p l e R s m args below meth c H locs lsA E hP hK hS hl => lv_pop E.1 E.2.1 hd (by rw [cm_v_cat]; exact hc) (k p l e R s m args below meth c H locs lsA E hP hK hS hl)
theorem cm_dup_x1 {v w : Value} (hd : decode M.2.1 pc = .ok (.dup_x1, 1)) (hc : v.category = 1) (hw : w.category = 1) (k : cm_g D M d rc rs Q cells slots (pc + 1) ls (v :: w :: v :: st) h) : cm_g D M d rc rs Q cells slots pc ls (v :: w :: st) h := fun p l e R s m args below meth c H locs lsA E hP hK hS hl => lv_dup_x1 E.1 E.2.1 hd (by rw [cm_v_cat]; exact hc) (by rw [cm_v_cat]; exact hw) (k p l e R s m args below meth c H locs lsA E hP hK hS hl)
theorem cm_dup2 {v w : Value} (hd : decode M.2.1 pc = .ok (.dup2, 1)) (hc : v.category = 1) (hw : w.category = 1) (k : cm_g D M d rc rs Q cells slots (pc + 1) ls (v :: w :: v :: w :: st) h) : cm_g D M d rc rs Q cells slots pc ls (v :: w :: st) h := fun p l e R s m args below meth c H locs lsA E hP hK hS hl => lv_dup2_11 E.1 E.2.1 hd (by rw [cm_v_cat]; exact hc) (by rw [cm_v_cat]; exact hw) (k p l e R s m args below meth c H locs lsA E hP hK hS hl)
theorem cm_dup2L {x : Int64} (hd : decode M.2.1 pc = .ok (.dup2, 1))  (k : cm_g D M d rc rs Q cells slots (pc + 1) ls (.long x :: .long x :: st) h) : cm_g D M d rc rs Q cells slots pc ls (.long x :: st) h := fun p l e R s m args below meth c H locs lsA E hP hK hS hl => lv_dup2_2 E.1 E.2.1 hd rfl (k p l e R s m args below meth c H locs lsA E hP hK hS hl)
theorem cm_goto {off : Int} {tgt : Nat} (hd : decode M.2.1 pc = .ok (.goto off, 3)) (ht : (pc : Int) + off = (tgt : Int)) (k : cm_g D M d rc rs Q cells slots tgt ls (st) h) : cm_g D M d rc rs Q cells slots pc ls (st) h := fun p l e R s m args below meth c H locs lsA E hP hK hS hl => lv_goto E.1 E.2.1 hd ht (k p l e R s m args below meth c H locs lsA E hP hK hS hl)
theorem cm_if_eq {x : Int32} {off : Int} {tgt : Nat} (hd : decode M.2.1 pc = .ok (.ifCond .eq off, 3)) (ht : (pc : Int) + off = (tgt : Int)) (kt : x = 0 → cm_g D M d rc rs Q cells slots tgt ls st h) (kf : ¬ x = 0 → cm_g D M d rc rs Q cells slots (pc + 3) ls st h) : cm_g D M d rc rs Q cells slots pc ls (.int x :: st) h := fun p l e R s m args below meth c H locs lsA E hP hK hS hl => lv_if_eq E.1 E.2.1 hd ht (fun q => kt q p l e R s m args below meth c H locs lsA E hP hK hS hl) (fun q => kf q p l e R s m args below meth c H locs lsA E hP hK hS hl)
theorem cm_icmp_eq {x y : Int32} {off : Int} {tgt : Nat} (hd : decode M.2.1 pc = .ok (.if_icmp .eq off, 3)) (ht : (pc : Int) + off = (tgt : Int)) (kt : x = y → cm_g D M d rc rs Q cells slots tgt ls st h) (kf : ¬ x = y → cm_g D M d rc rs Q cells slots (pc + 3) ls st h) : cm_g D M d rc rs Q cells slots pc ls (.int y :: .int x :: st) h := fun p l e R s m args below meth c H locs lsA E hP hK hS hl => lv_icmp_eq E.1 E.2.1 hd ht (fun q => kt q p l e R s m args below meth c H locs lsA E hP hK hS hl) (fun q => kf q p l e R s m args below meth c H locs lsA E hP hK hS hl)
theorem cm_if_ne {x : Int32} {off : Int} {tgt : Nat} (hd : decode M.2.1 pc = .ok (.ifCond .ne off, 3)) (ht : (pc : Int) + off = (tgt : Int)) (kt : ¬ x = 0 → cm_g D M d rc rs Q cells slots tgt ls st h) (kf : x = 0 → cm_g D M d rc rs Q cells slots (pc + 3) ls st h) : cm_g D M d rc rs Q cells slots pc ls (.int x :: st) h := fun p l e R s m args below meth c H locs lsA E hP hK hS hl => lv_if_ne E.1 E.2.1 hd ht (fun q => kt q p l e R s m args below meth c H locs lsA E hP hK hS hl) (fun q => kf q p l e R s m args below meth c H locs lsA E hP hK hS hl)
theorem cm_icmp_ne {x y : Int32} {off : Int} {tgt : Nat} (hd : decode M.2.1 pc = .ok (.if_icmp .ne off, 3)) (ht : (pc : Int) + off = (tgt : Int)) (kt : ¬ x = y → cm_g D M d rc rs Q cells slots tgt ls st h) (kf : x = y → cm_g D M d rc rs Q cells slots (pc + 3) ls st h) : cm_g D M d rc rs Q cells slots pc ls (.int y :: .int x :: st) h := fun p l e R s m args below meth c H locs lsA E hP hK hS hl => lv_icmp_ne E.1 E.2.1 hd ht (fun q => kt q p l e R s m args below meth c H locs lsA E hP hK hS hl) (fun q => kf q p l e R s m args below meth c H locs lsA E hP hK hS hl)
theorem cm_if_lt {x : Int32} {off : Int} {tgt : Nat} (hd : decode M.2.1 pc = .ok (.ifCond .lt off, 3)) (ht : (pc : Int) + off = (tgt : Int)) (kt : x < 0 → cm_g D M d rc rs Q cells slots tgt ls st h) (kf : ¬ x < 0 → cm_g D M d rc rs Q cells slots (pc + 3) ls st h) : cm_g D M d rc rs Q cells slots pc ls (.int x :: st) h := fun p l e R s m args below meth c H locs lsA E hP hK hS hl => lv_if_lt E.1 E.2.1 hd ht (fun q => kt q p l e R s m args below meth c H locs lsA E hP hK hS hl) (fun q => kf q p l e R s m args below meth c H locs lsA E hP hK hS hl)
theorem cm_icmp_lt {x y : Int32} {off : Int} {tgt : Nat} (hd : decode M.2.1 pc = .ok (.if_icmp .lt off, 3)) (ht : (pc : Int) + off = (tgt : Int)) (kt : x < y → cm_g D M d rc rs Q cells slots tgt ls st h) (kf : ¬ x < y → cm_g D M d rc rs Q cells slots (pc + 3) ls st h) : cm_g D M d rc rs Q cells slots pc ls (.int y :: .int x :: st) h := fun p l e R s m args below meth c H locs lsA E hP hK hS hl => lv_icmp_lt E.1 E.2.1 hd ht (fun q => kt q p l e R s m args below meth c H locs lsA E hP hK hS hl) (fun q => kf q p l e R s m args below meth c H locs lsA E hP hK hS hl)
theorem cm_if_ge {x : Int32} {off : Int} {tgt : Nat} (hd : decode M.2.1 pc = .ok (.ifCond .ge off, 3)) (ht : (pc : Int) + off = (tgt : Int)) (kt : 0 ≤ x → cm_g D M d rc rs Q cells slots tgt ls st h) (kf : ¬ 0 ≤ x → cm_g D M d rc rs Q cells slots (pc + 3) ls st h) : cm_g D M d rc rs Q cells slots pc ls (.int x :: st) h := fun p l e R s m args below meth c H locs lsA E hP hK hS hl => lv_if_ge E.1 E.2.1 hd ht (fun q => kt q p l e R s m args below meth c H locs lsA E hP hK hS hl) (fun q => kf q p l e R s m args below meth c H locs lsA E hP hK hS hl)
theorem cm_icmp_ge {x y : Int32} {off : Int} {tgt : Nat} (hd : decode M.2.1 pc = .ok (.if_icmp .ge off, 3)) (ht : (pc : Int) + off = (tgt : Int)) (kt : y ≤ x → cm_g D M d rc rs Q cells slots tgt ls st h) (kf : ¬ y ≤ x → cm_g D M d rc rs Q cells slots (pc + 3) ls st h) : cm_g D M d rc rs Q cells slots pc ls (.int y :: .int x :: st) h := fun p l e R s m args below meth c H locs lsA E hP hK hS hl => lv_icmp_ge E.1 E.2.1 hd ht (fun q => kt q p l e R s m args below meth c H locs lsA E hP hK hS hl) (fun q => kf q p l e R s m args below meth c H locs lsA E hP hK hS hl)
theorem cm_if_gt {x : Int32} {off : Int} {tgt : Nat} (hd : decode M.2.1 pc = .ok (.ifCond .gt off, 3)) (ht : (pc : Int) + off = (tgt : Int)) (kt : 0 < x → cm_g D M d rc rs Q cells slots tgt ls st h) (kf : ¬ 0 < x → cm_g D M d rc rs Q cells slots (pc + 3) ls st h) : cm_g D M d rc rs Q cells slots pc ls (.int x :: st) h := fun p l e R s m args below meth c H locs lsA E hP hK hS hl => lv_if_gt E.1 E.2.1 hd ht (fun q => kt q p l e R s m args below meth c H locs lsA E hP hK hS hl) (fun q => kf q p l e R s m args below meth c H locs lsA E hP hK hS hl)
theorem cm_icmp_gt {x y : Int32} {off : Int} {tgt : Nat} (hd : decode M.2.1 pc = .ok (.if_icmp .gt off, 3)) (ht : (pc : Int) + off = (tgt : Int)) (kt : y < x → cm_g D M d rc rs Q cells slots tgt ls st h) (kf : ¬ y < x → cm_g D M d rc rs Q cells slots (pc + 3) ls st h) : cm_g D M d rc rs Q cells slots pc ls (.int y :: .int x :: st) h := fun p l e R s m args below meth c H locs lsA E hP hK hS hl => lv_icmp_gt E.1 E.2.1 hd ht (fun q => kt q p l e R s m args below meth c H locs lsA E hP hK hS hl) (fun q => kf q p l e R s m args below meth c H locs lsA E hP hK hS hl)
theorem cm_if_le {x : Int32} {off : Int} {tgt : Nat} (hd : decode M.2.1 pc = .ok (.ifCond .le off, 3)) (ht : (pc : Int) + off = (tgt : Int)) (kt : x ≤ 0 → cm_g D M d rc rs Q cells slots tgt ls st h) (kf : ¬ x ≤ 0 → cm_g D M d rc rs Q cells slots (pc + 3) ls st h) : cm_g D M d rc rs Q cells slots pc ls (.int x :: st) h := fun p l e R s m args below meth c H locs lsA E hP hK hS hl => lv_if_le E.1 E.2.1 hd ht (fun q => kt q p l e R s m args below meth c H locs lsA E hP hK hS hl) (fun q => kf q p l e R s m args below meth c H locs lsA E hP hK hS hl)
theorem cm_icmp_le {x y : Int32} {off : Int} {tgt : Nat} (hd : decode M.2.1 pc = .ok (.if_icmp .le off, 3)) (ht : (pc : Int) + off = (tgt : Int)) (kt : x ≤ y → cm_g D M d rc rs Q cells slots tgt ls st h) (kf : ¬ x ≤ y → cm_g D M d rc rs Q cells slots (pc + 3) ls st h) : cm_g D M d rc rs Q cells slots pc ls (.int y :: .int x :: st) h := fun p l e R s m args below meth c H locs lsA E hP hK hS hl => lv_icmp_le E.1 E.2.1 hd ht (fun q => kt q p l e R s m args below meth c H locs lsA E hP hK hS hl) (fun q => kf q p l e R s m args below meth c H locs lsA E hP hK hS hl)
theorem cm_lcmp {x y : Int64} (hd : decode M.2.1 pc = .ok (.lcmp, 1))  (k : cm_g D M d rc rs Q cells slots (pc + 1) ls (.int (lg_cmp x y) :: st) h) : cm_g D M d rc rs Q cells slots pc ls (.long y :: .long x :: st) h := fun p l e R s m args below meth c H locs lsA E hP hK hS hl => W.lcmp E.1 E.2.1 hd (k p l e R s m args below meth c H locs lsA E hP hK hS hl)
theorem cm_ldc2 {index : Nat} {v : Int64} (hd : decode M.2.1 pc = .ok (.ldc2_w index, 3)) (hw : Cond.constantLong M.1.cls index v ∈ cm_good) (k : cm_g D M d rc rs Q cells slots (pc + 3) ls (.long v :: st) h) : cm_g D M d rc rs Q cells slots pc ls (st) h := fun p l e R s m args below meth c H locs lsA E hP hK hS hl => lv_ldc2 E.1 E.2.1 E.2.2.2.2.1 (E.2.2.2.2.2.1 _ hw) hd (k p l e R s m args below meth c H locs lsA E hP hK hS hl)
theorem cm_ldcw {index : Nat} {v : Int32} (hd : decode M.2.1 pc = .ok (.ldc_w index, 3)) (hw : Cond.constant M.1.cls index v ∈ cm_good) (k : cm_g D M d rc rs Q cells slots (pc + 3) ls (.int v :: st) h) : cm_g D M d rc rs Q cells slots pc ls (st) h := fun p l e R s m args below meth c H locs lsA E hP hK hS hl => lv_ldcw E.1 E.2.1 E.2.2.2.2.1 (E.2.2.2.2.2.1 _ hw) hd (k p l e R s m args below meth c H locs lsA E hP hK hS hl)
theorem cm_ldc {index : Nat} {v : Int32} (hd : decode M.2.1 pc = .ok (.ldc index, 2)) (hw : Cond.constant M.1.cls index v ∈ cm_good) (k : cm_g D M d rc rs Q cells slots (pc + 2) ls (.int v :: st) h) : cm_g D M d rc rs Q cells slots pc ls (st) h := fun p l e R s m args below meth c H locs lsA E hP hK hS hl => lv_ldc E.1 E.2.1 E.2.2.2.2.1 (E.2.2.2.2.2.1 _ hw) hd (k p l e R s m args below meth c H locs lsA E hP hK hS hl)
theorem cm_tsIn {dflt lo hi : Int} {offs : Array Int} {len : Nat} {x : Int32} {off : Int} {tgt : Nat} (hd : decode M.2.1 pc = .ok (.tableswitch dflt lo hi offs, len)) (h1 : ¬ x.toInt < lo) (h2 : ¬ hi < x.toInt) (ho : offs[(x.toInt - lo).toNat]? = some off) (ht : (pc : Int) + off = (tgt : Int)) (k : cm_g D M d rc rs Q cells slots tgt ls (st) h) : cm_g D M d rc rs Q cells slots pc ls (.int x :: st) h := fun p l e R s m args below meth c H locs lsA E hP hK hS hl => lv_tableIn E.1 E.2.1 hd h1 h2 ho ht (k p l e R s m args below meth c H locs lsA E hP hK hS hl)
theorem cm_tsOut {dflt lo hi : Int} {offs : Array Int} {len : Nat} {x : Int32} {tgt : Nat} (hd : decode M.2.1 pc = .ok (.tableswitch dflt lo hi offs, len)) (h1 : x.toInt < lo ∨ hi < x.toInt) (ht : (pc : Int) + dflt = (tgt : Int)) (k : cm_g D M d rc rs Q cells slots tgt ls (st) h) : cm_g D M d rc rs Q cells slots pc ls (.int x :: st) h := fun p l e R s m args below meth c H locs lsA E hP hK hS hl => lv_tableOut E.1 E.2.1 hd h1 ht (k p l e R s m args below meth c H locs lsA E hP hK hS hl)
def cm_c1 : Option Value → Bool
  | some w => w.category != 2
  | none => true
def cm_prs (D : cm_D) (ls : List (Option Value)) : List (Nat × Value) := (List.range ls.length).filterMap (fun i => (ls[i]?).join.map (fun v => (i, cm_v D v)))
theorem cm_prs_mem {ls : List (Option Value)} {j : Nat} {w : Value} : (j, w) ∈ cm_prs D ls ↔ ∃ v, ls[j]? = some (some v) ∧ w = cm_v D v := by
  unfold cm_prs
  rw [List.mem_filterMap]
  constructor
  · rintro ⟨i, hi, he⟩
    cases hv : ls[i]? with
    | none => rw [hv] at he; simp at he
    | some o =>
      cases o with
      | none => rw [hv] at he; simp at he
      | some v =>
        rw [hv] at he
        simp at he
        exact ⟨v, by rw [← he.1]; exact hv, he.2.symm⟩
  · rintro ⟨v, hv, rfl⟩
    refine ⟨j, ?_, ?_⟩
    · rw [List.mem_range]
      rcases Nat.lt_or_ge j ls.length with q | q
      · exact q
      · rw [List.getElem?_eq_none q] at hv; cases hv
    · rw [hv]; rfl
theorem cm_lv.has {lsA : Array Slot} {nL : Nat} {ls : List (Option Value)} (hl : cm_lv D lsA nL ls) : lv_has lsA nL (cm_prs D ls) := ⟨hl.1, hl.2.1, fun q hq => by
  obtain ⟨j, w⟩ := q
  obtain ⟨v, h1, rfl⟩ := cm_prs_mem.mp hq
  exact hl.2.2 j v h1⟩
def cm_ok1 (ls : List (Option Value)) : Nat → Bool
  | 0 => true
  | j + 1 => match ls[j]? with
    | some (some w) => w.category != 2
    | _ => true
theorem cm_c1_ok {ls : List (Option Value)} {j : Nat} (a : Option Value) (hk : cm_c1 a = true) (hj : ls[j]? = some a := by rfl) : cm_ok1 ls (j + 1) = true := by
  simp only [cm_ok1, hj]
  cases a with
  | none => rfl
  | some w => exact hk
theorem cm_lv.put1 {lsA : Array Slot} {nL i : Nat} {v : Value} {ls : List (Option Value)} (hk : cm_ok1 ls i = true) (hh : lv_has lsA nL ((i, cm_v D v) :: (cm_prs D ls).filter (fun q => !(q.1 == i) && !(q.1 + 1 == i && q.2.category == 2)))) : cm_lv D lsA nL (ls.set i (some v)) := by
  refine ⟨hh.1, hh.2.1, fun j w hj => ?_⟩
  by_cases e : j = i
  · subst e
    by_cases hlt : j < ls.length
    · rw [List.getElem?_set_self hlt] at hj
      cases hj
      exact hh.2.2 _ List.mem_cons_self
    · rw [List.getElem?_eq_none (by rw [List.length_set]; omega)] at hj
      cases hj
  · rw [List.getElem?_set_ne (Ne.symm e)] at hj
    refine hh.2.2 (j, cm_v D w) (List.mem_cons_of_mem _ (List.mem_filter.mpr ⟨cm_prs_mem.mpr ⟨w, hj, rfl⟩, ?_⟩))
    have h1 : (j == i) = false := by simp [e]
    by_cases e2 : j + 1 = i
    · subst e2
      simp only [cm_ok1, hj] at hk
      have h2 : ¬ w.category = 2 := by simpa using hk
      simp [cm_v_cat, h2]
    · simp [h1, e2]
theorem cm_lv.put2 {lsA : Array Slot} {nL i : Nat} {v : Value} {ls : List (Option Value)} (hk : cm_ok1 ls i = true) (hh : lv_has lsA nL ((i, cm_v D v) :: (cm_prs D ls).filter (fun q => !(q.1 == i) && (!(q.1 == i + 1) && !(q.1 + 1 == i && q.2.category == 2))))) : cm_lv D lsA nL ((ls.set i (some v)).set (i + 1) none) := by
  refine ⟨hh.1, hh.2.1, fun j w hj => ?_⟩
  by_cases e3 : j = i + 1
  · subst e3
    by_cases hlt : i + 1 < (ls.set i (some v)).length
    · rw [List.getElem?_set_self hlt] at hj
      cases hj
    · rw [List.getElem?_eq_none (by rw [List.length_set]; omega)] at hj
      cases hj
  · rw [List.getElem?_set_ne (Ne.symm e3)] at hj
    by_cases e : j = i
    · subst e
      by_cases hlt : j < ls.length
      · rw [List.getElem?_set_self hlt] at hj
        cases hj
        exact hh.2.2 _ List.mem_cons_self
      · rw [List.getElem?_eq_none (by rw [List.length_set]; omega)] at hj
        cases hj
    · rw [List.getElem?_set_ne (Ne.symm e)] at hj
      refine hh.2.2 (j, cm_v D w) (List.mem_cons_of_mem _ (List.mem_filter.mpr ⟨cm_prs_mem.mpr ⟨w, hj, rfl⟩, ?_⟩))
      have h1 : (j == i) = false := by simp [e]
      by_cases e2 : j + 1 = i
      · subst e2
        simp only [cm_ok1, hj] at hk
        have h2 : ¬ w.category = 2 := by simpa using hk
        simp [cm_v_cat, h2]
        omega
      · simp [h1, e2, e3]
/-- fewer locals known -/
theorem cm_weak {ls' : List (Option Value)} (hw : ∀ (i : Nat) (v : Value), ls'[i]? = some (some v) → ls[i]? = some (some v)) (k : cm_g D M d rc rs Q cells slots pc ls' st h) : cm_g D M d rc rs Q cells slots pc ls st h := fun p l e R s m args below meth c H locs lsA E hP hK hS hl => k p l e R s m args below meth c H locs lsA E hP hK hS ⟨hl.1, hl.2.1, fun i v hi => hl.2.2 i v (hw i v hi)⟩
theorem cm_istoreG {x : Int32} (i : Nat) (hd : decode M.2.1 pc = .ok (.istore i, 2)) (hn : i < M.2.2.1) (hk : cm_ok1 ls i = true) (k : cm_g D M d rc rs Q cells slots (pc + 2) (ls.set i (some (.int x))) st h) : cm_g D M d rc rs Q cells slots pc ls (.int x :: st) h := fun p l e R s m args below meth c H locs lsA E hP hK hS hl => lv_istore E.1 E.2.1 hd hl.has hn rfl (fun ls2 hh => k p l e R s m args below meth c H locs ls2 E hP hK hS (cm_lv.put1 (v := .int x) hk hh))
theorem cm_istoreN {x : Int32} (i : Nat) {f : Fin 4} (hd : decode M.2.1 pc = .ok (.istore_n f, 1)) (hf : (f : Nat) = i) (hn : i < M.2.2.1) (hk : cm_ok1 ls i = true) (k : cm_g D M d rc rs Q cells slots (pc + 1) (ls.set i (some (.int x))) st h) : cm_g D M d rc rs Q cells slots pc ls (.int x :: st) h := fun p l e R s m args below meth c H locs lsA E hP hK hS hl => lv_istore_n E.1 E.2.1 hd hf hl.has hn rfl (fun ls2 hh => k p l e R s m args below meth c H locs ls2 E hP hK hS (cm_lv.put1 (v := .int x) hk hh))
theorem cm_astoreG {x : Nat} (i : Nat) (hd : decode M.2.1 pc = .ok (.astore i, 2)) (hn : i < M.2.2.1) (hk : cm_ok1 ls i = true) (k : cm_g D M d rc rs Q cells slots (pc + 2) (ls.set i (some (.ref x))) st h) : cm_g D M d rc rs Q cells slots pc ls (.ref x :: st) h := fun p l e R s m args below meth c H locs lsA E hP hK hS hl => lv_astore E.1 E.2.1 hd hl.has hn rfl (fun ls2 hh => k p l e R s m args below meth c H locs ls2 E hP hK hS (cm_lv.put1 (v := .ref x) hk hh))
theorem cm_astoreN {x : Nat} (i : Nat) {f : Fin 4} (hd : decode M.2.1 pc = .ok (.astore_n f, 1)) (hf : (f : Nat) = i) (hn : i < M.2.2.1) (hk : cm_ok1 ls i = true) (k : cm_g D M d rc rs Q cells slots (pc + 1) (ls.set i (some (.ref x))) st h) : cm_g D M d rc rs Q cells slots pc ls (.ref x :: st) h := fun p l e R s m args below meth c H locs lsA E hP hK hS hl => lv_astore_n E.1 E.2.1 hd hf hl.has hn rfl (fun ls2 hh => k p l e R s m args below meth c H locs ls2 E hP hK hS (cm_lv.put1 (v := .ref x) hk hh))
theorem cm_lstoreG {x : Int64} (i : Nat) (hd : decode M.2.1 pc = .ok (.lstore i, 2)) (hn : i + 1 < M.2.2.1) (hk : cm_ok1 ls i = true) (k : cm_g D M d rc rs Q cells slots (pc + 2) ((ls.set i (some (.long x))).set (i + 1) none) st h) : cm_g D M d rc rs Q cells slots pc ls (.long x :: st) h := fun p l e R s m args below meth c H locs lsA E hP hK hS hl => lv_lstore E.1 E.2.1 hd hl.has hn rfl (fun ls2 hh => k p l e R s m args below meth c H locs ls2 E hP hK hS (cm_lv.put2 (v := .long x) hk hh))
theorem cm_lstoreN {x : Int64} (i : Nat) {f : Fin 4} (hd : decode M.2.1 pc = .ok (.lstore_n f, 1)) (hf : (f : Nat) = i) (hn : i + 1 < M.2.2.1) (hk : cm_ok1 ls i = true) (k : cm_g D M d rc rs Q cells slots (pc + 1) ((ls.set i (some (.long x))).set (i + 1) none) st h) : cm_g D M d rc rs Q cells slots pc ls (.long x :: st) h := fun p l e R s m args below meth c H locs lsA E hP hK hS hl => lv_lstore_n E.1 E.2.1 hd hf hl.has hn rfl (fun ls2 hh => k p l e R s m args below meth c H locs ls2 E hP hK hS (cm_lv.put2 (v := .long x) hk hh))
theorem cm_iincG {x : Int32} {n : Int} (c0 : Int32) (i : Nat) (hd : decode M.2.1 pc = .ok (.iinc i n, 3)) (hc : Int32.ofInt n = c0) (hn : i < M.2.2.1) (hi : ls[i]? = some (some (.int x))) (hk : cm_ok1 ls i = true) (k : cm_g D M d rc rs Q cells slots (pc + 3) (ls.set i (some (.int (x + c0)))) st h) : cm_g D M d rc rs Q cells slots pc ls st h := by
  intro p l e R s m args below meth c H locs lsA E hP hK hS hl
  obtain ⟨kk, hkk⟩ := List.getElem?_of_mem (cm_prs_mem.mpr ⟨.int x, hi, rfl⟩ : (i, cm_v D (.int x)) ∈ cm_prs D ls)
  exact lv_iinc (v := x + c0) E.1 E.2.1 hd hl.has (k := kk) hkk (by rw [hc]) hn rfl (fun ls2 hh => k p l e R s m args below meth c H locs ls2 E hP hK hS (cm_lv.put1 (v := .int (x + c0)) hk hh))
theorem cm_iload0 {x : Int32} {rest : List (Option Value)} (hd : decode M.2.1 pc = .ok (.iload_n 0, 1)) (k : cm_g D M d rc rs Q cells slots (pc + 1) (some (.int x) :: rest) (.int x :: st) h) : cm_g D M d rc rs Q cells slots pc (some (.int x) :: rest) st h := fun p l e R s m args below meth c H locs lsA E hP hK hS hl => lv_iload_n E.1 E.2.1 hd (i := 0) rfl (hl.2.2 0 _ rfl) (k p l e R s m args below meth c H locs lsA E hP hK hS hl)
theorem cm_istore0 {x : Int32} {a0 : Option Value} {rest : List (Option Value)} (hd : decode M.2.1 pc = .ok (.istore_n 0, 1)) (hn : 0 < M.2.2.1) (k : cm_g D M d rc rs Q cells slots (pc + 1) (some (.int x) :: rest) st h) : cm_g D M d rc rs Q cells slots pc (a0 :: rest) (.int x :: st) h := cm_istoreN 0 hd rfl hn rfl k
theorem cm_aload0 {x : Nat} {rest : List (Option Value)} (hd : decode M.2.1 pc = .ok (.aload_n 0, 1)) (k : cm_g D M d rc rs Q cells slots (pc + 1) (some (.ref x) :: rest) (.ref x :: st) h) : cm_g D M d rc rs Q cells slots pc (some (.ref x) :: rest) st h := fun p l e R s m args below meth c H locs lsA E hP hK hS hl => lv_aload_n E.1 E.2.1 hd (i := 0) rfl (hl.2.2 0 _ rfl) (k p l e R s m args below meth c H locs lsA E hP hK hS hl)
theorem cm_astore0 {x : Nat} {a0 : Option Value} {rest : List (Option Value)} (hd : decode M.2.1 pc = .ok (.astore_n 0, 1)) (hn : 0 < M.2.2.1) (k : cm_g D M d rc rs Q cells slots (pc + 1) (some (.ref x) :: rest) st h) : cm_g D M d rc rs Q cells slots pc (a0 :: rest) (.ref x :: st) h := cm_astoreN 0 hd rfl hn rfl k
theorem cm_lload0 {x : Int64} {rest : List (Option Value)} (hd : decode M.2.1 pc = .ok (.lload_n 0, 1)) (k : cm_g D M d rc rs Q cells slots (pc + 1) (some (.long x) :: rest) (.long x :: st) h) : cm_g D M d rc rs Q cells slots pc (some (.long x) :: rest) st h := fun p l e R s m args below meth c H locs lsA E hP hK hS hl => lv_lload_n E.1 E.2.1 hd (i := 0) rfl (hl.2.2 0 _ rfl) (k p l e R s m args below meth c H locs lsA E hP hK hS hl)
theorem cm_lstore0 {x : Int64} {a0 a1 : Option Value} {rest : List (Option Value)} (hd : decode M.2.1 pc = .ok (.lstore_n 0, 1)) (hn : 0 + 1 < M.2.2.1) (k : cm_g D M d rc rs Q cells slots (pc + 1) (some (.long x) :: none :: rest) st h) : cm_g D M d rc rs Q cells slots pc (a0 :: a1 :: rest) (.long x :: st) h := cm_lstoreN 0 hd rfl hn rfl k
theorem cm_iinc0 {x : Int32} {n : Int} {rest : List (Option Value)} (c0 : Int32) (hd : decode M.2.1 pc = .ok (.iinc 0 n, 3)) (hc : Int32.ofInt n = c0) (hn : 0 < M.2.2.1) (k : cm_g D M d rc rs Q cells slots (pc + 3) (some (.int (x + c0)) :: rest) st h) : cm_g D M d rc rs Q cells slots pc (some (.int x) :: rest) st h := cm_iincG c0 0 hd hc hn rfl rfl k
theorem cm_iload1 {x : Int32} {a0 : Option Value} {rest : List (Option Value)} (hd : decode M.2.1 pc = .ok (.iload_n 1, 1)) (k : cm_g D M d rc rs Q cells slots (pc + 1) (a0 :: some (.int x) :: rest) (.int x :: st) h) : cm_g D M d rc rs Q cells slots pc (a0 :: some (.int x) :: rest) st h := fun p l e R s m args below meth c H locs lsA E hP hK hS hl => lv_iload_n E.1 E.2.1 hd (i := 1) rfl (hl.2.2 1 _ rfl) (k p l e R s m args below meth c H locs lsA E hP hK hS hl)
theorem cm_istore1 {x : Int32} {a0 a1 : Option Value} {rest : List (Option Value)} (hd : decode M.2.1 pc = .ok (.istore_n 1, 1)) (hn : 1 < M.2.2.1) (hk : cm_c1 a0 = true) (k : cm_g D M d rc rs Q cells slots (pc + 1) (a0 :: some (.int x) :: rest) st h) : cm_g D M d rc rs Q cells slots pc (a0 :: a1 :: rest) (.int x :: st) h := cm_istoreN 1 hd rfl hn (cm_c1_ok a0 hk) k
theorem cm_aload1 {x : Nat} {a0 : Option Value} {rest : List (Option Value)} (hd : decode M.2.1 pc = .ok (.aload_n 1, 1)) (k : cm_g D M d rc rs Q cells slots (pc + 1) (a0 :: some (.ref x) :: rest) (.ref x :: st) h) : cm_g D M d rc rs Q cells slots pc (a0 :: some (.ref x) :: rest) st h := fun p l e R s m args below meth c H locs lsA E hP hK hS hl => lv_aload_n E.1 E.2.1 hd (i := 1) rfl (hl.2.2 1 _ rfl) (k p l e R s m args below meth c H locs lsA E hP hK hS hl)
theorem cm_astore1 {x : Nat} {a0 a1 : Option Value} {rest : List (Option Value)} (hd : decode M.2.1 pc = .ok (.astore_n 1, 1)) (hn : 1 < M.2.2.1) (hk : cm_c1 a0 = true) (k : cm_g D M d rc rs Q cells slots (pc + 1) (a0 :: some (.ref x) :: rest) st h) : cm_g D M d rc rs Q cells slots pc (a0 :: a1 :: rest) (.ref x :: st) h := cm_astoreN 1 hd rfl hn (cm_c1_ok a0 hk) k
theorem cm_lload1 {x : Int64} {a0 : Option Value} {rest : List (Option Value)} (hd : decode M.2.1 pc = .ok (.lload_n 1, 1)) (k : cm_g D M d rc rs Q cells slots (pc + 1) (a0 :: some (.long x) :: rest) (.long x :: st) h) : cm_g D M d rc rs Q cells slots pc (a0 :: some (.long x) :: rest) st h := fun p l e R s m args below meth c H locs lsA E hP hK hS hl => lv_lload_n E.1 E.2.1 hd (i := 1) rfl (hl.2.2 1 _ rfl) (k p l e R s m args below meth c H locs lsA E hP hK hS hl)
theorem cm_lstore1 {x : Int64} {a0 a1 a2 : Option Value} {rest : List (Option Value)} (hd : decode M.2.1 pc = .ok (.lstore_n 1, 1)) (hn : 1 + 1 < M.2.2.1) (hk : cm_c1 a0 = true) (k : cm_g D M d rc rs Q cells slots (pc + 1) (a0 :: some (.long x) :: none :: rest) st h) : cm_g D M d rc rs Q cells slots pc (a0 :: a1 :: a2 :: rest) (.long x :: st) h := cm_lstoreN 1 hd rfl hn (cm_c1_ok a0 hk) k
theorem cm_iinc1 {x : Int32} {n : Int} {a0 : Option Value} {rest : List (Option Value)} (c0 : Int32) (hd : decode M.2.1 pc = .ok (.iinc 1 n, 3)) (hc : Int32.ofInt n = c0) (hn : 1 < M.2.2.1) (hk : cm_c1 a0 = true) (k : cm_g D M d rc rs Q cells slots (pc + 3) (a0 :: some (.int (x + c0)) :: rest) st h) : cm_g D M d rc rs Q cells slots pc (a0 :: some (.int x) :: rest) st h := cm_iincG c0 1 hd hc hn rfl (cm_c1_ok a0 hk) k
theorem cm_iload2 {x : Int32} {a0 a1 : Option Value} {rest : List (Option Value)} (hd : decode M.2.1 pc = .ok (.iload_n 2, 1)) (k : cm_g D M d rc rs Q cells slots (pc + 1) (a0 :: a1 :: some (.int x) :: rest) (.int x :: st) h) : cm_g D M d rc rs Q cells slots pc (a0 :: a1 :: some (.int x) :: rest) st h := fun p l e R s m args below meth c H locs lsA E hP hK hS hl => lv_iload_n E.1 E.2.1 hd (i := 2) rfl (hl.2.2 2 _ rfl) (k p l e R s m args below meth c H locs lsA E hP hK hS hl)
theorem cm_istore2 {x : Int32} {a0 a1 a2 : Option Value} {rest : List (Option Value)} (hd : decode M.2.1 pc = .ok (.istore_n 2, 1)) (hn : 2 < M.2.2.1) (hk : cm_c1 a1 = true) (k : cm_g D M d rc rs Q cells slots (pc + 1) (a0 :: a1 :: some (.int x) :: rest) st h) : cm_g D M d rc rs Q cells slots pc (a0 :: a1 :: a2 :: rest) (.int x :: st) h := cm_istoreN 2 hd rfl hn (cm_c1_ok a1 hk) k
theorem cm_aload2 {x : Nat} {a0 a1 : Option Value} {rest : List (Option Value)} (hd : decode M.2.1 pc = .ok (.aload_n 2, 1)) (k : cm_g D M d rc rs Q cells slots (pc + 1) (a0 :: a1 :: some (.ref x) :: rest) (.ref x :: st) h) : cm_g D M d rc rs Q cells slots pc (a0 :: a1 :: some (.ref x) :: rest) st h := fun p l e R s m args below meth c H locs lsA E hP hK hS hl => lv_aload_n E.1 E.2.1 hd (i := 2) rfl (hl.2.2 2 _ rfl) (k p l e R s m args below meth c H locs lsA E hP hK hS hl)
theorem cm_astore2 {x : Nat} {a0 a1 a2 : Option Value} {rest : List (Option Value)} (hd : decode M.2.1 pc = .ok (.astore_n 2, 1)) (hn : 2 < M.2.2.1) (hk : cm_c1 a1 = true) (k : cm_g D M d rc rs Q cells slots (pc + 1) (a0 :: a1 :: some (.ref x) :: rest) st h) : cm_g D M d rc rs Q cells slots pc (a0 :: a1 :: a2 :: rest) (.ref x :: st) h := cm_astoreN 2 hd rfl hn (cm_c1_ok a1 hk) k
theorem cm_lload2 {x : Int64} {a0 a1 : Option Value} {rest : List (Option Value)} (hd : decode M.2.1 pc = .ok (.lload_n 2, 1)) (k : cm_g D M d rc rs Q cells slots (pc + 1) (a0 :: a1 :: some (.long x) :: rest) (.long x :: st) h) : cm_g D M d rc rs Q cells slots pc (a0 :: a1 :: some (.long x) :: rest) st h := fun p l e R s m args below meth c H locs lsA E hP hK hS hl => lv_lload_n E.1 E.2.1 hd (i := 2) rfl (hl.2.2 2 _ rfl) (k p l e R s m args below meth c H locs lsA E hP hK hS hl)
theorem cm_lstore2 {x : Int64} {a0 a1 a2 a3 : Option Value} {rest : List (Option Value)} (hd : decode M.2.1 pc = .ok (.lstore_n 2, 1)) (hn : 2 + 1 < M.2.2.1) (hk : cm_c1 a1 = true) (k : cm_g D M d rc rs Q cells slots (pc + 1) (a0 :: a1 :: some (.long x) :: none :: rest) st h) : cm_g D M d rc rs Q cells slots pc (a0 :: a1 :: a2 :: a3 :: rest) (.long x :: st) h := cm_lstoreN 2 hd rfl hn (cm_c1_ok a1 hk) k
theorem cm_iinc2 {x : Int32} {n : Int} {a0 a1 : Option Value} {rest : List (Option Value)} (c0 : Int32) (hd : decode M.2.1 pc = .ok (.iinc 2 n, 3)) (hc : Int32.ofInt n = c0) (hn : 2 < M.2.2.1) (hk : cm_c1 a1 = true) (k : cm_g D M d rc rs Q cells slots (pc + 3) (a0 :: a1 :: some (.int (x + c0)) :: rest) st h) : cm_g D M d rc rs Q cells slots pc (a0 :: a1 :: some (.int x) :: rest) st h := cm_iincG c0 2 hd hc hn rfl (cm_c1_ok a1 hk) k
theorem cm_iload3 {x : Int32} {a0 a1 a2 : Option Value} {rest : List (Option Value)} (hd : decode M.2.1 pc = .ok (.iload_n 3, 1)) (k : cm_g D M d rc rs Q cells slots (pc + 1) (a0 :: a1 :: a2 :: some (.int x) :: rest) (.int x :: st) h) : cm_g D M d rc rs Q cells slots pc (a0 :: a1 :: a2 :: some (.int x) :: rest) st h := fun p l e R s m args below meth c H locs lsA E hP hK hS hl => lv_iload_n E.1 E.2.1 hd (i := 3) rfl (hl.2.2 3 _ rfl) (k p l e R s m args below meth c H locs lsA E hP hK hS hl)
theorem cm_istore3 {x : Int32} {a0 a1 a2 a3 : Option Value} {rest : List (Option Value)} (hd : decode M.2.1 pc = .ok (.istore_n 3, 1)) (hn : 3 < M.2.2.1) (hk : cm_c1 a2 = true) (k : cm_g D M d rc rs Q cells slots (pc + 1) (a0 :: a1 :: a2 :: some (.int x) :: rest) st h) : cm_g D M d rc rs Q cells slots pc (a0 :: a1 :: a2 :: a3 :: rest) (.int x :: st) h := cm_istoreN 3 hd rfl hn (cm_c1_ok a2 hk) k
theorem cm_aload3 {x : Nat} {a0 a1 a2 : Option Value} {rest : List (Option Value)} (hd : decode M.2.1 pc = .ok (.aload_n 3, 1)) (k : cm_g D M d rc rs Q cells slots (pc + 1) (a0 :: a1 :: a2 :: some (.ref x) :: rest) (.ref x :: st) h) : cm_g D M d rc rs Q cells slots pc (a0 :: a1 :: a2 :: some (.ref x) :: rest) st h := fun p l e R s m args below meth c H locs lsA E hP hK hS hl => lv_aload_n E.1 E.2.1 hd (i := 3) rfl (hl.2.2 3 _ rfl) (k p l e R s m args below meth c H locs lsA E hP hK hS hl)
theorem cm_astore3 {x : Nat} {a0 a1 a2 a3 : Option Value} {rest : List (Option Value)} (hd : decode M.2.1 pc = .ok (.astore_n 3, 1)) (hn : 3 < M.2.2.1) (hk : cm_c1 a2 = true) (k : cm_g D M d rc rs Q cells slots (pc + 1) (a0 :: a1 :: a2 :: some (.ref x) :: rest) st h) : cm_g D M d rc rs Q cells slots pc (a0 :: a1 :: a2 :: a3 :: rest) (.ref x :: st) h := cm_astoreN 3 hd rfl hn (cm_c1_ok a2 hk) k
theorem cm_lload3 {x : Int64} {a0 a1 a2 : Option Value} {rest : List (Option Value)} (hd : decode M.2.1 pc = .ok (.lload_n 3, 1)) (k : cm_g D M d rc rs Q cells slots (pc + 1) (a0 :: a1 :: a2 :: some (.long x) :: rest) (.long x :: st) h) : cm_g D M d rc rs Q cells slots pc (a0 :: a1 :: a2 :: some (.long x) :: rest) st h := fun p l e R s m args below meth c H locs lsA E hP hK hS hl => lv_lload_n E.1 E.2.1 hd (i := 3) rfl (hl.2.2 3 _ rfl) (k p l e R s m args below meth c H locs lsA E hP hK hS hl)
theorem cm_lstore3 {x : Int64} {a0 a1 a2 a3 a4 : Option Value} {rest : List (Option Value)} (hd : decode M.2.1 pc = .ok (.lstore_n 3, 1)) (hn : 3 + 1 < M.2.2.1) (hk : cm_c1 a2 = true) (k : cm_g D M d rc rs Q cells slots (pc + 1) (a0 :: a1 :: a2 :: some (.long x) :: none :: rest) st h) : cm_g D M d rc rs Q cells slots pc (a0 :: a1 :: a2 :: a3 :: a4 :: rest) (.long x :: st) h := cm_lstoreN 3 hd rfl hn (cm_c1_ok a2 hk) k
theorem cm_iinc3 {x : Int32} {n : Int} {a0 a1 a2 : Option Value} {rest : List (Option Value)} (c0 : Int32) (hd : decode M.2.1 pc = .ok (.iinc 3 n, 3)) (hc : Int32.ofInt n = c0) (hn : 3 < M.2.2.1) (hk : cm_c1 a2 = true) (k : cm_g D M d rc rs Q cells slots (pc + 3) (a0 :: a1 :: a2 :: some (.int (x + c0)) :: rest) st h) : cm_g D M d rc rs Q cells slots pc (a0 :: a1 :: a2 :: some (.int x) :: rest) st h := cm_iincG c0 3 hd hc hn rfl (cm_c1_ok a2 hk) k
theorem cm_iload4 {x : Int32} {a0 a1 a2 a3 : Option Value} {rest : List (Option Value)} (hd : decode M.2.1 pc = .ok (.iload 4, 2)) (k : cm_g D M d rc rs Q cells slots (pc + 2) (a0 :: a1 :: a2 :: a3 :: some (.int x) :: rest) (.int x :: st) h) : cm_g D M d rc rs Q cells slots pc (a0 :: a1 :: a2 :: a3 :: some (.int x) :: rest) st h := fun p l e R s m args below meth c H locs lsA E hP hK hS hl => lv_iload E.1 E.2.1 hd (hl.2.2 4 _ rfl) (k p l e R s m args below meth c H locs lsA E hP hK hS hl)
theorem cm_istore4 {x : Int32} {a0 a1 a2 a3 a4 : Option Value} {rest : List (Option Value)} (hd : decode M.2.1 pc = .ok (.istore 4, 2)) (hn : 4 < M.2.2.1) (hk : cm_c1 a3 = true) (k : cm_g D M d rc rs Q cells slots (pc + 2) (a0 :: a1 :: a2 :: a3 :: some (.int x) :: rest) st h) : cm_g D M d rc rs Q cells slots pc (a0 :: a1 :: a2 :: a3 :: a4 :: rest) (.int x :: st) h := cm_istoreG 4 hd hn (cm_c1_ok a3 hk) k
theorem cm_aload4 {x : Nat} {a0 a1 a2 a3 : Option Value} {rest : List (Option Value)} (hd : decode M.2.1 pc = .ok (.aload 4, 2)) (k : cm_g D M d rc rs Q cells slots (pc + 2) (a0 :: a1 :: a2 :: a3 :: some (.ref x) :: rest) (.ref x :: st) h) : cm_g D M d rc rs Q cells slots pc (a0 :: a1 :: a2 :: a3 :: some (.ref x) :: rest) st h := fun p l e R s m args below meth c H locs lsA E hP hK hS hl => lv_aload E.1 E.2.1 hd (hl.2.2 4 _ rfl) (k p l e R s m args below meth c H locs lsA E hP hK hS hl)
theorem cm_astore4 {x : Nat} {a0 a1 a2 a3 a4 : Option Value} {rest : List (Option Value)} (hd : decode M.2.1 pc = .ok (.astore 4, 2)) (hn : 4 < M.2.2.1) (hk : cm_c1 a3 = true) (k : cm_g D M d rc rs Q cells slots (pc + 2) (a0 :: a1 :: a2 :: a3 :: some (.ref x) :: rest) st h) : cm_g D M d rc rs Q cells slots pc (a0 :: a1 :: a2 :: a3 :: a4 :: rest) (.ref x :: st) h := cm_astoreG 4 hd hn (cm_c1_ok a3 hk) k
theorem cm_lload4 {x : Int64} {a0 a1 a2 a3 : Option Value} {rest : List (Option Value)} (hd : decode M.2.1 pc = .ok (.lload 4, 2)) (k : cm_g D M d rc rs Q cells slots (pc + 2) (a0 :: a1 :: a2 :: a3 :: some (.long x) :: rest) (.long x :: st) h) : cm_g D M d rc rs Q cells slots pc (a0 :: a1 :: a2 :: a3 :: some (.long x) :: rest) st h := fun p l e R s m args below meth c H locs lsA E hP hK hS hl => lv_lload E.1 E.2.1 hd (hl.2.2 4 _ rfl) (k p l e R s m args below meth c H locs lsA E hP hK hS hl)
theorem cm_lstore4 {x : Int64} {a0 a1 a2 a3 a4 a5 : Option Value} {rest : List (Option Value)} (hd : decode M.2.1 pc = .ok (.lstore 4, 2)) (hn : 4 + 1 < M.2.2.1) (hk : cm_c1 a3 = true) (k : cm_g D M d rc rs Q cells slots (pc + 2) (a0 :: a1 :: a2 :: a3 :: some (.long x) :: none :: rest) st h) : cm_g D M d rc rs Q cells slots pc (a0 :: a1 :: a2 :: a3 :: a4 :: a5 :: rest) (.long x :: st) h := cm_lstoreG 4 hd hn (cm_c1_ok a3 hk) k
theorem cm_iinc4 {x : Int32} {n : Int} {a0 a1 a2 a3 : Option Value} {rest : List (Option Value)} (c0 : Int32) (hd : decode M.2.1 pc = .ok (.iinc 4 n, 3)) (hc : Int32.ofInt n = c0) (hn : 4 < M.2.2.1) (hk : cm_c1 a3 = true) (k : cm_g D M d rc rs Q cells slots (pc + 3) (a0 :: a1 :: a2 :: a3 :: some (.int (x + c0)) :: rest) st h) : cm_g D M d rc rs Q cells slots pc (a0 :: a1 :: a2 :: a3 :: some (.int x) :: rest) st h := cm_iincG c0 4 hd hc hn rfl (cm_c1_ok a3 hk) k
theorem cm_iload5 {x : Int32} {a0 a1 a2 a3 a4 : Option Value} {rest : List (Option Value)} (hd : decode M.2.1 pc = .ok (.iload 5, 2)) (k : cm_g D M d rc rs Q cells slots (pc + 2) (a0 :: a1 :: a2 :: a3 :: a4 :: some (.int x) :: rest) (.int x :: st) h) : cm_g D M d rc rs Q cells slots pc (a0 :: a1 :: a2 :: a3 :: a4 :: some (.int x) :: rest) st h := fun p l e R s m args below meth c H locs lsA E hP hK hS hl => lv_iload E.1 E.2.1 hd (hl.2.2 5 _ rfl) (k p l e R s m args below meth c H locs lsA E hP hK hS hl)
theorem cm_istore5 {x : Int32} {a0 a1 a2 a3 a4 a5 : Option Value} {rest : List (Option Value)} (hd : decode M.2.1 pc = .ok (.istore 5, 2)) (hn : 5 < M.2.2.1) (hk : cm_c1 a4 = true) (k : cm_g D M d rc rs Q cells slots (pc + 2) (a0 :: a1 :: a2 :: a3 :: a4 :: some (.int x) :: rest) st h) : cm_g D M d rc rs Q cells slots pc (a0 :: a1 :: a2 :: a3 :: a4 :: a5 :: rest) (.int x :: st) h := cm_istoreG 5 hd hn (cm_c1_ok a4 hk) k
theorem cm_aload5 {x : Nat} {a0 a1 a2 a3 a4 : Option Value} {rest : List (Option Value)} (hd : decode M.2.1 pc = .ok (.aload 5, 2)) (k : cm_g D M d rc rs Q cells slots (pc + 2) (a0 :: a1 :: a2 :: a3 :: a4 :: some (.ref x) :: rest) (.ref x :: st) h) : cm_g D M d rc rs Q cells slots pc (a0 :: a1 :: a2 :: a3 :: a4 :: some (.ref x) :: rest) st h := fun p l e R s m args below meth c H locs lsA E hP hK hS hl => lv_aload E.1 E.2.1 hd (hl.2.2 5 _ rfl) (k p l e R s m args below meth c H locs lsA E hP hK hS hl)
theorem cm_astore5 {x : Nat} {a0 a1 a2 a3 a4 a5 : Option Value} {rest : List (Option Value)} (hd : decode M.2.1 pc = .ok (.astore 5, 2)) (hn : 5 < M.2.2.1) (hk : cm_c1 a4 = true) (k : cm_g D M d rc rs Q cells slots (pc + 2) (a0 :: a1 :: a2 :: a3 :: a4 :: some (.ref x) :: rest) st h) : cm_g D M d rc rs Q cells slots pc (a0 :: a1 :: a2 :: a3 :: a4 :: a5 :: rest) (.ref x :: st) h := cm_astoreG 5 hd hn (cm_c1_ok a4 hk) k
theorem cm_lload5 {x : Int64} {a0 a1 a2 a3 a4 : Option Value} {rest : List (Option Value)} (hd : decode M.2.1 pc = .ok (.lload 5, 2)) (k : cm_g D M d rc rs Q cells slots (pc + 2) (a0 :: a1 :: a2 :: a3 :: a4 :: some (.long x) :: rest) (.long x :: st) h) : cm_g D M d rc rs Q cells slots pc (a0 :: a1 :: a2 :: a3 :: a4 :: some (.long x) :: rest) st h := fun p l e R s m args below meth c H locs lsA E hP hK hS hl => lv_lload E.1 E.2.1 hd (hl.2.2 5 _ rfl) (k p l e R s m args below meth c H locs lsA E hP hK hS hl)
theorem cm_lstore5 {x : Int64} {a0 a1 a2 a3 a4 a5 a6 : Option Value} {rest : List (Option Value)} (hd : decode M.2.1 pc = .ok (.lstore 5, 2)) (hn : 5 + 1 < M.2.2.1) (hk : cm_c1 a4 = true) (k : cm_g D M d rc rs Q cells slots (pc + 2) (a0 :: a1 :: a2 :: a3 :: a4 :: some (.long x) :: none :: rest) st h) : cm_g D M d rc rs Q cells slots pc (a0 :: a1 :: a2 :: a3 :: a4 :: a5 :: a6 :: rest) (.long x :: st) h := cm_lstoreG 5 hd hn (cm_c1_ok a4 hk) k
theorem cm_iinc5 {x : Int32} {n : Int} {a0 a1 a2 a3 a4 : Option Value} {rest : List (Option Value)} (c0 : Int32) (hd : decode M.2.1 pc = .ok (.iinc 5 n, 3)) (hc : Int32.ofInt n = c0) (hn : 5 < M.2.2.1) (hk : cm_c1 a4 = true) (k : cm_g D M d rc rs Q cells slots (pc + 3) (a0 :: a1 :: a2 :: a3 :: a4 :: some (.int (x + c0)) :: rest) st h) : cm_g D M d rc rs Q cells slots pc (a0 :: a1 :: a2 :: a3 :: a4 :: some (.int x) :: rest) st h := cm_iincG c0 5 hd hc hn rfl (cm_c1_ok a4 hk) k
theorem cm_iload6 {x : Int32} {a0 a1 a2 a3 a4 a5 : Option Value} {rest : List (Option Value)} (hd : decode M.2.1 pc = .ok (.iload 6, 2)) (k : cm_g D M d rc rs Q cells slots (pc + 2) (a0 :: a1 :: a2 :: a3 :: a4 :: a5 :: some (.int x) :: rest) (.int x :: st) h) : cm_g D M d rc rs Q cells slots pc (a0 :: a1 :: a2 :: a3 :: a4 :: a5 :: some (.int x) :: rest) st h := fun p l e R s m args below meth c H locs lsA E hP hK hS hl => lv_iload E.1 E.2.1 hd (hl.2.2 6 _ rfl) (k p l e R s m args below meth c H locs lsA E hP hK hS hl)
theorem cm_istore6 {x : Int32} {a0 a1 a2 a3 a4 a5 a6 : Option Value} {rest : List (Option Value)} (hd : decode M.2.1 pc = .ok (.istore 6, 2)) (hn : 6 < M.2.2.1) (hk : cm_c1 a5 = true) (k : cm_g D M d rc rs Q cells slots (pc + 2) (a0 :: a1 :: a2 :: a3 :: a4 :: a5 :: some (.int x) :: rest) st h) : cm_g D M d rc rs Q cells slots pc (a0 :: a1 :: a2 :: a3 :: a4 :: a5 :: a6 :: rest) (.int x :: st) h := cm_istoreG 6 hd hn (cm_c1_ok a5 hk) k
theorem cm_aload6 {x : Nat} {a0 a1 a2 a3 a4 a5 : Option Value} {rest : List (Option Value)} (hd : decode M.2.1 pc = .ok (.aload 6, 2)) (k : cm_g D M d rc rs Q cells slots (pc + 2) (a0 :: a1 :: a2 :: a3 :: a4 :: a5 :: some (.ref x) :: rest) (.ref x :: st) h) : cm_g D M d rc rs Q cells slots pc (a0 :: a1 :: a2 :: a3 :: a4 :: a5 :: some (.ref x) :: rest) st h := fun p l e R s m args below meth c H locs lsA E hP hK hS hl => lv_aload E.1 E.2.1 hd (hl.2.2 6 _ rfl) (k p l e R s m args below meth c H locs lsA E hP hK hS hl)
theorem cm_astore6 {x : Nat} {a0 a1 a2 a3 a4 a5 a6 : Option Value} {rest : List (Option Value)} (hd : decode M.2.1 pc = .ok (.astore 6, 2)) (hn : 6 < M.2.2.1) (hk : cm_c1 a5 = true) (k : cm_g D M d rc rs Q cells slots (pc + 2) (a0 :: a1 :: a2 :: a3 :: a4 :: a5 :: some (.ref x) :: rest) st h) : cm_g D M d rc rs Q cells slots pc (a0 :: a1 :: a2 :: a3 :: a4 :: a5 :: a6 :: rest) (.ref x :: st) h := cm_astoreG 6 hd hn (cm_c1_ok a5 hk) k
theorem cm_lload6 {x : Int64} {a0 a1 a2 a3 a4 a5 : Option Value} {rest : List (Option Value)} (hd : decode M.2.1 pc = .ok (.lload 6, 2)) (k : cm_g D M d rc rs Q cells slots (pc + 2) (a0 :: a1 :: a2 :: a3 :: a4 :: a5 :: some (.long x) :: rest) (.long x :: st) h) : cm_g D M d rc rs Q cells slots pc (a0 :: a1 :: a2 :: a3 :: a4 :: a5 :: some (.long x) :: rest) st h := fun p l e R s m args below meth c H locs lsA E hP hK hS hl => lv_lload E.1 E.2.1 hd (hl.2.2 6 _ rfl) (k p l e R s m args below meth c H locs lsA E hP hK hS hl)
theorem cm_lstore6 {x : Int64} {a0 a1 a2 a3 a4 a5 a6 a7 : Option Value} {rest : List (Option Value)} (hd : decode M.2.1 pc = .ok (.lstore 6, 2)) (hn : 6 + 1 < M.2.2.1) (hk : cm_c1 a5 = true) (k : cm_g D M d rc rs Q cells slots (pc + 2) (a0 :: a1 :: a2 :: a3 :: a4 :: a5 :: some (.long x) :: none :: rest) st h) : cm_g D M d rc rs Q cells slots pc (a0 :: a1 :: a2 :: a3 :: a4 :: a5 :: a6 :: a7 :: rest) (.long x :: st) h := cm_lstoreG 6 hd hn (cm_c1_ok a5 hk) k
theorem cm_iinc6 {x : Int32} {n : Int} {a0 a1 a2 a3 a4 a5 : Option Value} {rest : List (Option Value)} (c0 : Int32) (hd : decode M.2.1 pc = .ok (.iinc 6 n, 3)) (hc : Int32.ofInt n = c0) (hn : 6 < M.2.2.1) (hk : cm_c1 a5 = true) (k : cm_g D M d rc rs Q cells slots (pc + 3) (a0 :: a1 :: a2 :: a3 :: a4 :: a5 :: some (.int (x + c0)) :: rest) st h) : cm_g D M d rc rs Q cells slots pc (a0 :: a1 :: a2 :: a3 :: a4 :: a5 :: some (.int x) :: rest) st h := cm_iincG c0 6 hd hc hn rfl (cm_c1_ok a5 hk) k
theorem cm_iload7 {x : Int32} {a0 a1 a2 a3 a4 a5 a6 : Option Value} {rest : List (Option Value)} (hd : decode M.2.1 pc = .ok (.iload 7, 2)) (k : cm_g D M d rc rs Q cells slots (pc + 2) (a0 :: a1 :: a2 :: a3 :: a4 :: a5 :: a6 :: some (.int x) :: rest) (.int x :: st) h) : cm_g D M d rc rs Q cells slots pc (a0 :: a1 :: a2 :: a3 :: a4 :: a5 :: a6 :: some (.int x) :: rest) st h := fun p l e R s m args below meth c H locs lsA E hP hK hS hl => lv_iload E.1 E.2.1 hd (hl.2.2 7 _ rfl) (k p l e R s m args below meth c H locs lsA E hP hK hS hl)
theorem cm_istore7 {x : Int32} {a0 a1 a2 a3 a4 a5 a6 a7 : Option Value} {rest : List (Option Value)} (hd : decode M.2.1 pc = .ok (.istore 7, 2)) (hn : 7 < M.2.2.1) (hk : cm_c1 a6 = true) (k : cm_g D M d rc rs Q cells slots (pc + 2) (a0 :: a1 :: a2 :: a3 :: a4 :: a5 :: a6 :: some (.int x) :: rest) st h) : cm_g D M d rc rs Q cells slots pc (a0 :: a1 :: a2 :: a3 :: a4 :: a5 :: a6 :: a7 :: rest) (.int x :: st) h := cm_istoreG 7 hd hn (cm_c1_ok a6 hk) k
theorem cm_aload7 {x : Nat} {a0 a1 a2 a3 a4 a5 a6 : Option Value} {rest : List (Option Value)} (hd : decode M.2.1 pc = .ok (.aload 7, 2)) (k : cm_g D M d rc rs Q cells slots (pc + 2) (a0 :: a1 :: a2 :: a3 :: a4 :: a5 :: a6 :: some (.ref x) :: rest) (.ref x :: st) h) : cm_g D M d rc rs Q cells slots pc (a0 :: a1 :: a2 :: a3 :: a4 :: a5 :: a6 :: some (.ref x) :: rest) st h := fun p l e R s m args below meth c H locs lsA E hP hK hS hl => lv_aload E.1 E.2.1 hd (hl.2.2 7 _ rfl) (k p l e R s m args below meth c H locs lsA E hP hK hS hl)
theorem cm_astore7 {x : Nat} {a0 a1 a2 a3 a4 a5 a6 a7 : Option Value} {rest : List (Option Value)} (hd : decode M.2.1 pc = .ok (.astore 7, 2)) (hn : 7 < M.2.2.1) (hk : cm_c1 a6 = true) (k : cm_g D M d rc rs Q cells slots (pc + 2) (a0 :: a1 :: a2 :: a3 :: a4 :: a5 :: a6 :: some (.ref x) :: rest) st h) : cm_g D M d rc rs Q cells slots pc (a0 :: a1 :: a2 :: a3 :: a4 :: a5 :: a6 :: a7 :: rest) (.ref x :: st) h := cm_astoreG 7 hd hn (cm_c1_ok a6 hk) k
theorem cm_lload7 {x : Int64} {a0 a1 a2 a3 a4 a5 a6 : Option Value} {rest : List (Option Value)} (hd : decode M.2.1 pc = .ok (.lload 7, 2)) (k : cm_g D M d rc rs Q cells slots (pc + 2) (a0 :: a1 :: a2 :: a3 :: a4 :: a5 :: a6 :: some (.long x) :: rest) (.long x :: st) h) : cm_g D M d rc rs Q cells slots pc (a0 :: a1 :: a2 :: a3 :: a4 :: a5 :: a6 :: some (.long x) :: rest) st h := fun p l e R s m args below meth c H locs lsA E hP hK hS hl => lv_lload E.1 E.2.1 hd (hl.2.2 7 _ rfl) (k p l e R s m args below meth c H locs lsA E hP hK hS hl)
theorem cm_lstore7 {x : Int64} {a0 a1 a2 a3 a4 a5 a6 a7 a8 : Option Value} {rest : List (Option Value)} (hd : decode M.2.1 pc = .ok (.lstore 7, 2)) (hn : 7 + 1 < M.2.2.1) (hk : cm_c1 a6 = true) (k : cm_g D M d rc rs Q cells slots (pc + 2) (a0 :: a1 :: a2 :: a3 :: a4 :: a5 :: a6 :: some (.long x) :: none :: rest) st h) : cm_g D M d rc rs Q cells slots pc (a0 :: a1 :: a2 :: a3 :: a4 :: a5 :: a6 :: a7 :: a8 :: rest) (.long x :: st) h := cm_lstoreG 7 hd hn (cm_c1_ok a6 hk) k
theorem cm_iinc7 {x : Int32} {n : Int} {a0 a1 a2 a3 a4 a5 a6 : Option Value} {rest : List (Option Value)} (c0 : Int32) (hd : decode M.2.1 pc = .ok (.iinc 7 n, 3)) (hc : Int32.ofInt n = c0) (hn : 7 < M.2.2.1) (hk : cm_c1 a6 = true) (k : cm_g D M d rc rs Q cells slots (pc + 3) (a0 :: a1 :: a2 :: a3 :: a4 :: a5 :: a6 :: some (.int (x + c0)) :: rest) st h) : cm_g D M d rc rs Q cells slots pc (a0 :: a1 :: a2 :: a3 :: a4 :: a5 :: a6 :: some (.int x) :: rest) st h := cm_iincG c0 7 hd hc hn rfl (cm_c1_ok a6 hk) k
theorem cm_iload8 {x : Int32} {a0 a1 a2 a3 a4 a5 a6 a7 : Option Value} {rest : List (Option Value)} (hd : decode M.2.1 pc = .ok (.iload 8, 2)) (k : cm_g D M d rc rs Q cells slots (pc + 2) (a0 :: a1 :: a2 :: a3 :: a4 :: a5 :: a6 :: a7 :: some (.int x) :: rest) (.int x :: st) h) : cm_g D M d rc rs Q cells slots pc (a0 :: a1 :: a2 :: a3 :: a4 :: a5 :: a6 :: a7 :: some (.int x) :: rest) st h := fun p l e R s m args below meth c H locs lsA E hP hK hS hl => lv_iload E.1 E.2.1 hd (hl.2.2 8 _ rfl) (k p l e R s m args below meth c H locs lsA E hP hK hS hl)
theorem cm_istore8 {x : Int32} {a0 a1 a2 a3 a4 a5 a6 a7 a8 : Option Value} {rest : List (Option Value)} (hd : decode M.2.1 pc = .ok (.istore 8, 2)) (hn : 8 < M.2.2.1) (hk : cm_c1 a7 = true) (k : cm_g D M d rc rs Q cells slots (pc + 2) (a0 :: a1 :: a2 :: a3 :: a4 :: a5 :: a6 :: a7 :: some (.int x) :: rest) st h) : cm_g D M d rc rs Q cells slots pc (a0 :: a1 :: a2 :: a3 :: a4 :: a5 :: a6 :: a7 :: a8 :: rest) (.int x :: st) h := cm_istoreG 8 hd hn (cm_c1_ok a7 hk) k
theorem cm_aload8 {x : Nat} {a0 a1 a2 a3 a4 a5 a6 a7 : Option Value} {rest : List (Option Value)} (hd : decode M.2.1 pc = .ok (.aload 8, 2)) (k : cm_g D M d rc rs Q cells slots (pc + 2) (a0 :: a1 :: a2 :: a3 :: a4 :: a5 :: a6 :: a7 :: some (.ref x) :: rest) (.ref x :: st) h) : cm_g D M d rc rs Q cells slots pc (a0 :: a1 :: a2 :: a3 :: a4 :: a5 :: a6 :: a7 :: some (.ref x) :: rest) st h := fun p l e R s m args below meth c H locs lsA E hP hK hS hl => lv_aload E.1 E.2.1 hd (hl.2.2 8 _ rfl) (k p l e R s m args below meth c H locs lsA E hP hK hS hl)
theorem cm_astore8 {x : Nat} {a0 a1 a2 a3 a4 a5 a6 a7 a8 : Option Value} {rest : List (Option Value)} (hd : decode M.2.1 pc = .ok (.astore 8, 2)) (hn : 8 < M.2.2.1) (hk : cm_c1 a7 = true) (k : cm_g D M d rc rs Q cells slots (pc + 2) (a0 :: a1 :: a2 :: a3 :: a4 :: a5 :: a6 :: a7 :: some (.ref x) :: rest) st h) : cm_g D M d rc rs Q cells slots pc (a0 :: a1 :: a2 :: a3 :: a4 :: a5 :: a6 :: a7 :: a8 :: rest) (.ref x :: st) h := cm_astoreG 8 hd hn (cm_c1_ok a7 hk) k
theorem cm_lload8 {x : Int64} {a0 a1 a2 a3 a4 a5 a6 a7 : Option Value} {rest : List (Option Value)} (hd : decode M.2.1 pc = .ok (.lload 8, 2)) (k : cm_g D M d rc rs Q cells slots (pc + 2) (a0 :: a1 :: a2 :: a3 :: a4 :: a5 :: a6 :: a7 :: some (.long x) :: rest) (.long x :: st) h) : cm_g D M d rc rs Q cells slots pc (a0 :: a1 :: a2 :: a3 :: a4 :: a5 :: a6 :: a7 :: some (.long x) :: rest) st h := fun p l e R s m args below meth c H locs lsA E hP hK hS hl => lv_lload E.1 E.2.1 hd (hl.2.2 8 _ rfl) (k p l e R s m args below meth c H locs lsA E hP hK hS hl)
theorem cm_lstore8 {x : Int64} {a0 a1 a2 a3 a4 a5 a6 a7 a8 a9 : Option Value} {rest : List (Option Value)} (hd : decode M.2.1 pc = .ok (.lstore 8, 2)) (hn : 8 + 1 < M.2.2.1) (hk : cm_c1 a7 = true) (k : cm_g D M d rc rs Q cells slots (pc + 2) (a0 :: a1 :: a2 :: a3 :: a4 :: a5 :: a6 :: a7 :: some (.long x) :: none :: rest) st h) : cm_g D M d rc rs Q cells slots pc (a0 :: a1 :: a2 :: a3 :: a4 :: a5 :: a6 :: a7 :: a8 :: a9 :: rest) (.long x :: st) h := cm_lstoreG 8 hd hn (cm_c1_ok a7 hk) k
theorem cm_iinc8 {x : Int32} {n : Int} {a0 a1 a2 a3 a4 a5 a6 a7 : Option Value} {rest : List (Option Value)} (c0 : Int32) (hd : decode M.2.1 pc = .ok (.iinc 8 n, 3)) (hc : Int32.ofInt n = c0) (hn : 8 < M.2.2.1) (hk : cm_c1 a7 = true) (k : cm_g D M d rc rs Q cells slots (pc + 3) (a0 :: a1 :: a2 :: a3 :: a4 :: a5 :: a6 :: a7 :: some (.int (x + c0)) :: rest) st h) : cm_g D M d rc rs Q cells slots pc (a0 :: a1 :: a2 :: a3 :: a4 :: a5 :: a6 :: a7 :: some (.int x) :: rest) st h := cm_iincG c0 8 hd hc hn rfl (cm_c1_ok a7 hk) k
theorem cm_iload9 {x : Int32} {a0 a1 a2 a3 a4 a5 a6 a7 a8 : Option Value} {rest : List (Option Value)} (hd : decode M.2.1 pc = .ok (.iload 9, 2)) (k : cm_g D M d rc rs Q cells slots (pc + 2) (a0 :: a1 :: a2 :: a3 :: a4 :: a5 :: a6 :: a7 :: a8 :: some (.int x) :: rest) (.int x :: st) h) : cm_g D M d rc rs Q cells slots pc (a0 :: a1 :: a2 :: a3 :: a4 :: a5 :: a6 :: a7 :: a8 :: some (.int x) :: rest) st h := fun p l e R s m args below meth c H locs lsA E hP hK hS hl => lv_iload E.1 E.2.1 hd (hl.2.2 9 _ rfl) (k p l e R s m args below meth c H locs lsA E hP hK hS hl)
theorem cm_istore9 {x : Int32} {a0 a1 a2 a3 a4 a5 a6 a7 a8 a9 : Option Value} {rest : List (Option Value)} (hd : decode M.2.1 pc = .ok (.istore 9, 2)) (hn : 9 < M.2.2.1) (hk : cm_c1 a8 = true) (k : cm_g D M d rc rs Q cells slots (pc + 2) (a0 :: a1 :: a2 :: a3 :: a4 :: a5 :: a6 :: a7 :: a8 :: some (.int x) :: rest) st h) : cm_g D M d rc rs Q cells slots pc (a0 :: a1 :: a2 :: a3 :: a4 :: a5 :: a6 :: a7 :: a8 :: a9 :: rest) (.int x :: st) h := cm_istoreG 9 hd hn (cm_c1_ok a8 hk) k
theorem cm_aload9 {x : Nat} {a0 a1 a2 a3 a4 a5 a6 a7 a8 : Option Value} {rest : List (Option Value)} (hd : decode M.2.1 pc = .ok (.aload 9, 2)) (k : cm_g D M d rc rs Q cells slots (pc + 2) (a0 :: a1 :: a2 :: a3 :: a4 :: a5 :: a6 :: a7 :: a8 :: some (.ref x) :: rest) (.ref x :: st) h) : cm_g D M d rc rs Q cells slots pc (a0 :: a1 :: a2 :: a3 :: a4 :: a5 :: a6 :: a7 :: a8 :: some (.ref x) :: rest) st h := fun p l e R s m args below meth c H locs lsA E hP hK hS hl => lv_aload E.1 E.2.1 hd (hl.2.2 9 _ rfl) (k p l e R s m args below meth c H locs lsA E hP hK hS hl)
theorem cm_astore9 {x : Nat} {a0 a1 a2 a3 a4 a5 a6 a7 a8 a9 : Option Value} {rest : List (Option Value)} (hd : decode M.2.1 pc = .ok (.astore 9, 2)) (hn : 9 < M.2.2.1) (hk : cm_c1 a8 = true) (k : cm_g D M d rc rs Q cells slots (pc + 2) (a0 :: a1 :: a2 :: a3 :: a4 :: a5 :: a6 :: a7 :: a8 :: some (.ref x) :: rest) st h) : cm_g D M d rc rs Q cells slots pc (a0 :: a1 :: a2 :: a3 :: a4 :: a5 :: a6 :: a7 :: a8 :: a9 :: rest) (.ref x :: st) h := cm_astoreG 9 hd hn (cm_c1_ok a8 hk) k
theorem cm_lload9 {x : Int64} {a0 a1 a2 a3 a4 a5 a6 a7 a8 : Option Value} {rest : List (Option Value)} (hd : decode M.2.1 pc = .ok (.lload 9, 2)) (k : cm_g D M d rc rs Q cells slots (pc + 2) (a0 :: a1 :: a2 :: a3 :: a4 :: a5 :: a6 :: a7 :: a8 :: some (.long x) :: rest) (.long x :: st) h) : cm_g D M d rc rs Q cells slots pc (a0 :: a1 :: a2 :: a3 :: a4 :: a5 :: a6 :: a7 :: a8 :: some (.long x) :: rest) st h := fun p l e R s m args below meth c H locs lsA E hP hK hS hl => lv_lload E.1 E.2.1 hd (hl.2.2 9 _ rfl) (k p l e R s m args below meth c H locs lsA E hP hK hS hl)
theorem cm_lstore9 {x : Int64} {a0 a1 a2 a3 a4 a5 a6 a7 a8 a9 a10 : Option Value} {rest : List (Option Value)} (hd : decode M.2.1 pc = .ok (.lstore 9, 2)) (hn : 9 + 1 < M.2.2.1) (hk : cm_c1 a8 = true) (k : cm_g D M d rc rs Q cells slots (pc + 2) (a0 :: a1 :: a2 :: a3 :: a4 :: a5 :: a6 :: a7 :: a8 :: some (.long x) :: none :: rest) st h) : cm_g D M d rc rs Q cells slots pc (a0 :: a1 :: a2 :: a3 :: a4 :: a5 :: a6 :: a7 :: a8 :: a9 :: a10 :: rest) (.long x :: st) h := cm_lstoreG 9 hd hn (cm_c1_ok a8 hk) k
theorem cm_iinc9 {x : Int32} {n : Int} {a0 a1 a2 a3 a4 a5 a6 a7 a8 : Option Value} {rest : List (Option Value)} (c0 : Int32) (hd : decode M.2.1 pc = .ok (.iinc 9 n, 3)) (hc : Int32.ofInt n = c0) (hn : 9 < M.2.2.1) (hk : cm_c1 a8 = true) (k : cm_g D M d rc rs Q cells slots (pc + 3) (a0 :: a1 :: a2 :: a3 :: a4 :: a5 :: a6 :: a7 :: a8 :: some (.int (x + c0)) :: rest) st h) : cm_g D M d rc rs Q cells slots pc (a0 :: a1 :: a2 :: a3 :: a4 :: a5 :: a6 :: a7 :: a8 :: some (.int x) :: rest) st h := cm_iincG c0 9 hd hc hn rfl (cm_c1_ok a8 hk) k
theorem cm_iload10 {x : Int32} {a0 a1 a2 a3 a4 a5 a6 a7 a8 a9 : Option Value} {rest : List (Option Value)} (hd : decode M.2.1 pc = .ok (.iload 10, 2)) (k : cm_g D M d rc rs Q cells slots (pc + 2) (a0 :: a1 :: a2 :: a3 :: a4 :: a5 :: a6 :: a7 :: a8 :: a9 :: some (.int x) :: rest) (.int x :: st) h) : cm_g D M d rc rs Q cells slots pc (a0 :: a1 :: a2 :: a3 :: a4 :: a5 :: a6 :: a7 :: a8 :: a9 :: some (.int x) :: rest) st h := fun p l e R s m args below meth c H locs lsA E hP hK hS hl => lv_iload E.1 E.2.1 hd (hl.2.2 10 _ rfl) (k p l e R s m args below meth c H locs lsA E hP hK hS hl)
theorem cm_istore10 {x : Int32} {a0 a1 a2 a3 a4 a5 a6 a7 a8 a9 a10 : Option Value} {rest : List (Option Value)} (hd : decode M.2.1 pc = .ok (.istore 10, 2)) (hn : 10 < M.2.2.1) (hk : cm_c1 a9 = true) (k : cm_g D M d rc rs Q cells slots (pc + 2) (a0 :: a1 :: a2 :: a3 :: a4 :: a5 :: a6 :: a7 :: a8 :: a9 :: some (.int x) :: rest) st h) : cm_g D M d rc rs Q cells slots pc (a0 :: a1 :: a2 :: a3 :: a4 :: a5 :: a6 :: a7 :: a8 :: a9 :: a10 :: rest) (.int x :: st) h := cm_istoreG 10 hd hn (cm_c1_ok a9 hk) k
theorem cm_aload10 {x : Nat} {a0 a1 a2 a3 a4 a5 a6 a7 a8 a9 : Option Value} {rest : List (Option Value)} (hd : decode M.2.1 pc = .ok (.aload 10, 2)) (k : cm_g D M d rc rs Q cells slots (pc + 2) (a0 :: a1 :: a2 :: a3 :: a4 :: a5 :: a6 :: a7 :: a8 :: a9 :: some (.ref x) :: rest) (.ref x :: st) h) : cm_g D M d rc rs Q cells slots pc (a0 :: a1 :: a2 :: a3 :: a4 :: a5 :: a6 :: a7 :: a8 :: a9 :: some (.ref x) :: rest) st h := fun p l e R s m args below meth c H locs lsA E hP hK hS hl => lv_aload E.1 E.2.1 hd (hl.2.2 10 _ rfl) (k p l e R s m args below meth c H locs lsA E hP hK hS hl)
theorem cm_astore10 {x : Nat} {a0 a1 a2 a3 a4 a5 a6 a7 a8 a9 a10 : Option Value} {rest : List (Option Value)} (hd : decode M.2.1 pc = .ok (.astore 10, 2)) (hn : 10 < M.2.2.1) (hk : cm_c1 a9 = true) (k : cm_g D M d rc rs Q cells slots (pc + 2) (a0 :: a1 :: a2 :: a3 :: a4 :: a5 :: a6 :: a7 :: a8 :: a9 :: some (.ref x) :: rest) st h) : cm_g D M d rc rs Q cells slots pc (a0 :: a1 :: a2 :: a3 :: a4 :: a5 :: a6 :: a7 :: a8 :: a9 :: a10 :: rest) (.ref x :: st) h := cm_astoreG 10 hd hn (cm_c1_ok a9 hk) k
theorem cm_lload10 {x : Int64} {a0 a1 a2 a3 a4 a5 a6 a7 a8 a9 : Option Value} {rest : List (Option Value)} (hd : decode M.2.1 pc = .ok (.lload 10, 2)) (k : cm_g D M d rc rs Q cells slots (pc + 2) (a0 :: a1 :: a2 :: a3 :: a4 :: a5 :: a6 :: a7 :: a8 :: a9 :: some (.long x) :: rest) (.long x :: st) h) : cm_g D M d rc rs Q cells slots pc (a0 :: a1 :: a2 :: a3 :: a4 :: a5 :: a6 :: a7 :: a8 :: a9 :: some (.long x) :: rest) st h := fun p l e R s m args below meth c H locs lsA E hP hK hS hl => lv_lload E.1 E.2.1 hd (hl.2.2 10 _ rfl) (k p l e R s m args below meth c H locs lsA E hP hK hS hl)
theorem cm_lstore10 {x : Int64} {a0 a1 a2 a3 a4 a5 a6 a7 a8 a9 a10 a11 : Option Value} {rest : List (Option Value)} (hd : decode M.2.1 pc = .ok (.lstore 10, 2)) (hn : 10 + 1 < M.2.2.1) (hk : cm_c1 a9 = true) (k : cm_g D M d rc rs Q cells slots (pc + 2) (a0 :: a1 :: a2 :: a3 :: a4 :: a5 :: a6 :: a7 :: a8 :: a9 :: some (.long x) :: none :: rest) st h) : cm_g D M d rc rs Q cells slots pc (a0 :: a1 :: a2 :: a3 :: a4 :: a5 :: a6 :: a7 :: a8 :: a9 :: a10 :: a11 :: rest) (.long x :: st) h := cm_lstoreG 10 hd hn (cm_c1_ok a9 hk) k
theorem cm_iinc10 {x : Int32} {n : Int} {a0 a1 a2 a3 a4 a5 a6 a7 a8 a9 : Option Value} {rest : List (Option Value)} (c0 : Int32) (hd : decode M.2.1 pc = .ok (.iinc 10 n, 3)) (hc : Int32.ofInt n = c0) (hn : 10 < M.2.2.1) (hk : cm_c1 a9 = true) (k : cm_g D M d rc rs Q cells slots (pc + 3) (a0 :: a1 :: a2 :: a3 :: a4 :: a5 :: a6 :: a7 :: a8 :: a9 :: some (.int (x + c0)) :: rest) st h) : cm_g D M d rc rs Q cells slots pc (a0 :: a1 :: a2 :: a3 :: a4 :: a5 :: a6 :: a7 :: a8 :: a9 :: some (.int x) :: rest) st h := cm_iincG c0 10 hd hc hn rfl (cm_c1_ok a9 hk) k
theorem cm_iload11 {x : Int32} {a0 a1 a2 a3 a4 a5 a6 a7 a8 a9 a10 : Option Value} {rest : List (Option Value)} (hd : decode M.2.1 pc = .ok (.iload 11, 2)) (k : cm_g D M d rc rs Q cells slots (pc + 2) (a0 :: a1 :: a2 :: a3 :: a4 :: a5 :: a6 :: a7 :: a8 :: a9 :: a10 :: some (.int x) :: rest) (.int x :: st) h) : cm_g D M d rc rs Q cells slots pc (a0 :: a1 :: a2 :: a3 :: a4 :: a5 :: a6 :: a7 :: a8 :: a9 :: a10 :: some (.int x) :: rest) st h := fun p l e R s m args below meth c H locs lsA E hP hK hS hl => lv_iload E.1 E.2.1 hd (hl.2.2 11 _ rfl) (k p l e R s m args below meth c H locs lsA E hP hK hS hl)
theorem cm_istore11 {x : Int32} {a0 a1 a2 a3 a4 a5 a6 a7 a8 a9 a10 a11 : Option Value} {rest : List (Option Value)} (hd : decode M.2.1 pc = .ok (.istore 11, 2)) (hn : 11 < M.2.2.1) (hk : cm_c1 a10 = true) (k : cm_g D M d rc rs Q cells slots (pc + 2) (a0 :: a1 :: a2 :: a3 :: a4 :: a5 :: a6 :: a7 :: a8 :: a9 :: a10 :: some (.int x) :: rest) st h) : cm_g D M d rc rs Q cells slots pc (a0 :: a1 :: a2 :: a3 :: a4 :: a5 :: a6 :: a7 :: a8 :: a9 :: a10 :: a11 :: rest) (.int x :: st) h := cm_istoreG 11 hd hn (cm_c1_ok a10 hk) k
theorem cm_aload11 {x : Nat} {a0 a1 a2 a3 a4 a5 a6 a7 a8 a9 a10 : Option Value} {rest : List (Option Value)} (hd : decode M.2.1 pc = .ok (.aload 11, 2)) (k : cm_g D M d rc rs Q cells slots (pc + 2) (a0 :: a1 :: a2 :: a3 :: a4 :: a5 :: a6 :: a7 :: a8 :: a9 :: a10 :: some (.ref x) :: rest) (.ref x :: st) h) : cm_g D M d rc rs Q cells slots pc (a0 :: a1 :: a2 :: a3 :: a4 :: a5 :: a6 :: a7 :: a8 :: a9 :: a10 :: some (.ref x) :: rest) st h := fun p l e R s m args below meth c H locs lsA E hP hK hS hl => lv_aload E.1 E.2.1 hd (hl.2.2 11 _ rfl) (k p l e R s m args below meth c H locs lsA E hP hK hS hl)
theorem cm_astore11 {x : Nat} {a0 a1 a2 a3 a4 a5 a6 a7 a8 a9 a10 a11 : Option Value} {rest : List (Option Value)} (hd : decode M.2.1 pc = .ok (.astore 11, 2)) (hn : 11 < M.2.2.1) (hk : cm_c1 a10 = true) (k : cm_g D M d rc rs Q cells slots (pc + 2) (a0 :: a1 :: a2 :: a3 :: a4 :: a5 :: a6 :: a7 :: a8 :: a9 :: a10 :: some (.ref x) :: rest) st h) : cm_g D M d rc rs Q cells slots pc (a0 :: a1 :: a2 :: a3 :: a4 :: a5 :: a6 :: a7 :: a8 :: a9 :: a10 :: a11 :: rest) (.ref x :: st) h := cm_astoreG 11 hd hn (cm_c1_ok a10 hk) k
theorem cm_lload11 {x : Int64} {a0 a1 a2 a3 a4 a5 a6 a7 a8 a9 a10 : Option Value} {rest : List (Option Value)} (hd : decode M.2.1 pc = .ok (.lload 11, 2)) (k : cm_g D M d rc rs Q cells slots (pc + 2) (a0 :: a1 :: a2 :: a3 :: a4 :: a5 :: a6 :: a7 :: a8 :: a9 :: a10 :: some (.long x) :: rest) (.long x :: st) h) : cm_g D M d rc rs Q cells slots pc (a0 :: a1 :: a2 :: a3 :: a4 :: a5 :: a6 :: a7 :: a8 :: a9 :: a10 :: some (.long x) :: rest) st h := fun p l e R s m args below meth c H locs lsA E hP hK hS hl => lv_lload E.1 E.2.1 hd (hl.2.2 11 _ rfl) (k p l e R s m args below meth c H locs lsA E hP hK hS hl)
theorem cm_lstore11 {x : Int64} {a0 a1 a2 a3 a4 a5 a6 a7 a8 a9 a10 a11 a12 : Option Value} {rest : List (Option Value)} (hd : decode M.2.1 pc = .ok (.lstore 11, 2)) (hn : 11 + 1 < M.2.2.1) (hk : cm_c1 a10 = true) (k : cm_g D M d rc rs Q cells slots (pc + 2) (a0 :: a1 :: a2 :: a3 :: a4 :: a5 :: a6 :: a7 :: a8 :: a9 :: a10 :: some (.long x) :: none :: rest) st h) : cm_g D M d rc rs Q cells slots pc (a0 :: a1 :: a2 :: a3 :: a4 :: a5 :: a6 :: a7 :: a8 :: a9 :: a10 :: a11 :: a12 :: rest) (.long x :: st) h := cm_lstoreG 11 hd hn (cm_c1_ok a10 hk) k
theorem cm_iinc11 {x : Int32} {n : Int} {a0 a1 a2 a3 a4 a5 a6 a7 a8 a9 a10 : Option Value} {rest : List (Option Value)} (c0 : Int32) (hd : decode M.2.1 pc = .ok (.iinc 11 n, 3)) (hc : Int32.ofInt n = c0) (hn : 11 < M.2.2.1) (hk : cm_c1 a10 = true) (k : cm_g D M d rc rs Q cells slots (pc + 3) (a0 :: a1 :: a2 :: a3 :: a4 :: a5 :: a6 :: a7 :: a8 :: a9 :: a10 :: some (.int (x + c0)) :: rest) st h) : cm_g D M d rc rs Q cells slots pc (a0 :: a1 :: a2 :: a3 :: a4 :: a5 :: a6 :: a7 :: a8 :: a9 :: a10 :: some (.int x) :: rest) st h := cm_iincG c0 11 hd hc hn rfl (cm_c1_ok a10 hk) k
theorem cm_iload12 {x : Int32} {a0 a1 a2 a3 a4 a5 a6 a7 a8 a9 a10 a11 : Option Value} {rest : List (Option Value)} (hd : decode M.2.1 pc = .ok (.iload 12, 2)) (k : cm_g D M d rc rs Q cells slots (pc + 2) (a0 :: a1 :: a2 :: a3 :: a4 :: a5 :: a6 :: a7 :: a8 :: a9 :: a10 :: a11 :: some (.int x) :: rest) (.int x :: st) h) : cm_g D M d rc rs Q cells slots pc (a0 :: a1 :: a2 :: a3 :: a4 :: a5 :: a6 :: a7 :: a8 :: a9 :: a10 :: a11 :: some (.int x) :: rest) st h := fun p l e R s m args below meth c H locs lsA E hP hK hS hl => lv_iload E.1 E.2.1 hd (hl.2.2 12 _ rfl) (k p l e R s m args below meth c H locs lsA E hP hK hS hl)
theorem cm_istore12 {x : Int32} {a0 a1 a2 a3 a4 a5 a6 a7 a8 a9 a10 a11 a12 : Option Value} {rest : List (Option Value)} (hd : decode M.2.1 pc = .ok (.istore 12, 2)) (hn : 12 < M.2.2.1) (hk : cm_c1 a11 = true) (k : cm_g D M d rc rs Q cells slots (pc + 2) (a0 :: a1 :: a2 :: a3 :: a4 :: a5 :: a6 :: a7 :: a8 :: a9 :: a10 :: a11 :: some (.int x) :: rest) st h) : cm_g D M d rc rs Q cells slots pc (a0 :: a1 :: a2 :: a3 :: a4 :: a5 :: a6 :: a7 :: a8 :: a9 :: a10 :: a11 :: a12 :: rest) (.int x :: st) h := cm_istoreG 12 hd hn (cm_c1_ok a11 hk) k
theorem cm_aload12 {x : Nat} {a0 a1 a2 a3 a4 a5 a6 a7 a8 a9 a10 a11 : Option Value} {rest : List (Option Value)} (hd : decode M.2.1 pc = .ok (.aload 12, 2)) (k : cm_g D M d rc rs Q cells slots (pc + 2) (a0 :: a1 :: a2 :: a3 :: a4 :: a5 :: a6 :: a7 :: a8 :: a9 :: a10 :: a11 :: some (.ref x) :: rest) (.ref x :: st) h) : cm_g D M d rc rs Q cells slots pc (a0 :: a1 :: a2 :: a3 :: a4 :: a5 :: a6 :: a7 :: a8 :: a9 :: a10 :: a11 :: some (.ref x) :: rest) st h := fun p l e R s m args below meth c H locs lsA E hP hK hS hl => lv_aload E.1 E.2.1 hd (hl.2.2 12 _ rfl) (k p l e R s m args below meth c H locs lsA E hP hK hS hl)
theorem cm_astore12 {x : Nat} {a0 a1 a2 a3 a4 a5 a6 a7 a8 a9 a10 a11 a12 : Option Value} {rest : List (Option Value)} (hd : decode M.2.1 pc = .ok (.astore 12, 2)) (hn : 12 < M.2.2.1) (hk : cm_c1 a11 = true) (k : cm_g D M d rc rs Q cells slots (pc + 2) (a0 :: a1 :: a2 :: a3 :: a4 :: a5 :: a6 :: a7 :: a8 :: a9 :: a10 :: a11 :: some (.ref x) :: rest) st h) : cm_g D M d rc rs Q cells slots pc (a0 :: a1 :: a2 :: a3 :: a4 :: a5 :: a6 :: a7 :: a8 :: a9 :: a10 :: a11 :: a12 :: rest) (.ref x :: st) h := cm_astoreG 12 hd hn (cm_c1_ok a11 hk) k
theorem cm_lload12 {x : Int64} {a0 a1 a2 a3 a4 a5 a6 a7 a8 a9 a10 a11 : Option Value} {rest : List (Option Value)} (hd : decode M.2.1 pc = .ok (.lload 12, 2)) (k : cm_g D M d rc rs Q cells slots (pc + 2) (a0 :: a1 :: a2 :: a3 :: a4 :: a5 :: a6 :: a7 :: a8 :: a9 :: a10 :: a11 :: some (.long x) :: rest) (.long x :: st) h) : cm_g D M d rc rs Q cells slots pc (a0 :: a1 :: a2 :: a3 :: a4 :: a5 :: a6 :: a7 :: a8 :: a9 :: a10 :: a11 :: some (.long x) :: rest) st h := fun p l e R s m args below meth c H locs lsA E hP hK hS hl => lv_lload E.1 E.2.1 hd (hl.2.2 12 _ rfl) (k p l e R s m args below meth c H locs lsA E hP hK hS hl)
theorem cm_lstore12 {x : Int64} {a0 a1 a2 a3 a4 a5 a6 a7 a8 a9 a10 a11 a12 a13 : Option Value} {rest : List (Option Value)} (hd : decode M.2.1 pc = .ok (.lstore 12, 2)) (hn : 12 + 1 < M.2.2.1) (hk : cm_c1 a11 = true) (k : cm_g D M d rc rs Q cells slots (pc + 2) (a0 :: a1 :: a2 :: a3 :: a4 :: a5 :: a6 :: a7 :: a8 :: a9 :: a10 :: a11 :: some (.long x) :: none :: rest) st h) : cm_g D M d rc rs Q cells slots pc (a0 :: a1 :: a2 :: a3 :: a4 :: a5 :: a6 :: a7 :: a8 :: a9 :: a10 :: a11 :: a12 :: a13 :: rest) (.long x :: st) h := cm_lstoreG 12 hd hn (cm_c1_ok a11 hk) k
theorem cm_iinc12 {x : Int32} {n : Int} {a0 a1 a2 a3 a4 a5 a6 a7 a8 a9 a10 a11 : Option Value} {rest : List (Option Value)} (c0 : Int32) (hd : decode M.2.1 pc = .ok (.iinc 12 n, 3)) (hc : Int32.ofInt n = c0) (hn : 12 < M.2.2.1) (hk : cm_c1 a11 = true) (k : cm_g D M d rc rs Q cells slots (pc + 3) (a0 :: a1 :: a2 :: a3 :: a4 :: a5 :: a6 :: a7 :: a8 :: a9 :: a10 :: a11 :: some (.int (x + c0)) :: rest) st h) : cm_g D M d rc rs Q cells slots pc (a0 :: a1 :: a2 :: a3 :: a4 :: a5 :: a6 :: a7 :: a8 :: a9 :: a10 :: a11 :: some (.int x) :: rest) st h := cm_iincG c0 12 hd hc hn rfl (cm_c1_ok a11 hk) k
theorem cm_iret {x : Int32} (hd : decode M.2.1 pc = .ok (.ireturn, 1)) (hr : M.2.2.2 = some .int) (hq : Q (some (.int x)) h) : cm_g D M d cells slots Q cells slots pc ls [.int x] h := fun p l e R s m args below meth c H locs lsA E hP hK hS hl => W.iret (v := x) E.1 E.2.1 (E.2.2.1.trans hr) (fun t ht hW => ⟨⟨some (.int x), h, rfl, hq, by rw [ht]; exact hP, cm_K1.moved hW.alike hK⟩, hS.F ht⟩) hS.2.2 hd E.2.2.2.2.2.2.1
theorem cm_zret {x : Int32} (hd : decode M.2.1 pc = .ok (.ireturn, 1)) (hr : M.2.2.2 = some .boolean) (hn : narrow .boolean (.int x) = .int x) (hq : Q (some (.int x)) h) : cm_g D M d cells slots Q cells slots pc ls [.int x] h := fun p l e R s m args below meth c H locs lsA E hP hK hS hl => W.zret (v := x) (ty := .boolean) E.1 E.2.1 (E.2.2.1.trans hr) hn (fun t ht hW => ⟨⟨some (.int x), h, rfl, hq, by rw [ht]; exact hP, cm_K1.moved hW.alike hK⟩, hS.F ht⟩) hS.2.2 hd E.2.2.2.2.2.2.1
theorem cm_lret {x : Int64} (hd : decode M.2.1 pc = .ok (.lreturn, 1)) (hr : M.2.2.2 = some .long) (hq : Q (some (.long x)) h) : cm_g D M d cells slots Q cells slots pc ls [.long x] h := fun p l e R s m args below meth c H locs lsA E hP hK hS hl => W.lret (v := x) E.1 E.2.1 (E.2.2.1.trans hr) (fun t ht hW => ⟨⟨some (.long x), h, rfl, hq, by rw [ht]; exact hP, cm_K1.moved hW.alike hK⟩, hS.F ht⟩) hS.2.2 hd E.2.2.2.2.2.2.1
theorem cm_vret (hd : decode M.2.1 pc = .ok (.return_, 1)) (hr : M.2.2.2 = none) (hq : Q none h) : cm_g D M d cells slots Q cells slots pc ls [] h := fun p l e R s m args below meth c H locs lsA E hP hK hS hl => W.vret E.1 E.2.1 (E.2.2.1.trans hr) (fun t ht hW => ⟨⟨none, h, rfl, hq, by rw [ht]; exact hP, cm_K1.moved hW.alike hK⟩, hS.F ht⟩) hS.2.2 hd E.2.2.2.2.2.2.1
end CMR
end
