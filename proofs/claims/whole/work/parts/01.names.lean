-- ===== PART A: goes FIRST, ahead of the names: the tables' words, and 'selects' of the private methods out of them =====
/-- a private method of a class that the tables say can be made, by its rows of tables_1 -/
def lw_okq (q : MethodName × Nat) : Prop := (q.1.cls ≠ "java/lang/invoke/MethodHandle" ∧ q.1.cls ≠ "java/lang/invoke/VarHandle") ∧ Cond.instantiable q.1.cls q.2 ∈ tables_1 ∧ Cond.privateMethod q.1 ∈ tables_1 ∧ Cond.instanceMethod q.1 ∈ tables_1
theorem lw_p0 : lw_okq (⟨"ByHand", "faulty", "(I)I"⟩, 9) := ⟨⟨by decide +kernel, by decide +kernel⟩, List.mem_of_getElem? (i := 14) (by decide +kernel), List.mem_of_getElem? (i := 187) (by decide +kernel), List.mem_of_getElem? (i := 188) (by decide +kernel)⟩
theorem lw_p1 : lw_okq (⟨"ByHand$Hands", "timesOf", "(I)I"⟩, 3) := ⟨⟨by decide +kernel, by decide +kernel⟩, List.mem_of_getElem? (i := 36) (by decide +kernel), List.mem_of_getElem? (i := 287) (by decide +kernel), List.mem_of_getElem? (i := 288) (by decide +kernel)⟩
theorem lw_p2 : lw_okq (⟨"ByHand$Telling", "has", "(I)Z"⟩, 4) := ⟨⟨by decide +kernel, by decide +kernel⟩, List.mem_of_getElem? (i := 96) (by decide +kernel), List.mem_of_getElem? (i := 316) (by decide +kernel), List.mem_of_getElem? (i := 317) (by decide +kernel)⟩
theorem lw_p3 : lw_okq (⟨"ByHand$Telling", "alikeToAny", "(I)I"⟩, 4) := ⟨⟨by decide +kernel, by decide +kernel⟩, List.mem_of_getElem? (i := 96) (by decide +kernel), List.mem_of_getElem? (i := 344) (by decide +kernel), List.mem_of_getElem? (i := 345) (by decide +kernel)⟩
theorem lw_p4 : lw_okq (⟨"ByHand$Telling", "leastIn", "(I)I"⟩, 4) := ⟨⟨by decide +kernel, by decide +kernel⟩, List.mem_of_getElem? (i := 96) (by decide +kernel), List.mem_of_getElem? (i := 357) (by decide +kernel), List.mem_of_getElem? (i := 358) (by decide +kernel)⟩
theorem lw_p5 : lw_okq (⟨"ByHand", "swappedUp", "(I)I"⟩, 9) := ⟨⟨by decide +kernel, by decide +kernel⟩, List.mem_of_getElem? (i := 14) (by decide +kernel), List.mem_of_getElem? (i := 370) (by decide +kernel), List.mem_of_getElem? (i := 371) (by decide +kernel)⟩
theorem lw_p6 : lw_okq (⟨"ByHand$Sayings", "has", "(I)Z"⟩, 5) := ⟨⟨by decide +kernel, by decide +kernel⟩, List.mem_of_getElem? (i := 52) (by decide +kernel), List.mem_of_getElem? (i := 413) (by decide +kernel), List.mem_of_getElem? (i := 414) (by decide +kernel)⟩
theorem lw_p7 : lw_okq (⟨"ByHand", "falseByWeight", "(II)I"⟩, 9) := ⟨⟨by decide +kernel, by decide +kernel⟩, List.mem_of_getElem? (i := 14) (by decide +kernel), List.mem_of_getElem? (i := 431) (by decide +kernel), List.mem_of_getElem? (i := 432) (by decide +kernel)⟩
theorem lw_p8 : lw_okq (⟨"ByHand$Telling", "allThings", "()I"⟩, 4) := ⟨⟨by decide +kernel, by decide +kernel⟩, List.mem_of_getElem? (i := 96) (by decide +kernel), List.mem_of_getElem? (i := 447) (by decide +kernel), List.mem_of_getElem? (i := 448) (by decide +kernel)⟩
theorem lw_p9 : lw_okq (⟨"ByHand$Telling", "fittingBehind", "(I)I"⟩, 4) := ⟨⟨by decide +kernel, by decide +kernel⟩, List.mem_of_getElem? (i := 96) (by decide +kernel), List.mem_of_getElem? (i := 455) (by decide +kernel), List.mem_of_getElem? (i := 456) (by decide +kernel)⟩
theorem lw_p10 : lw_okq (⟨"ByHand$Telling", "heavierThanAny", "(I)I"⟩, 4) := ⟨⟨by decide +kernel, by decide +kernel⟩, List.mem_of_getElem? (i := 96) (by decide +kernel), List.mem_of_getElem? (i := 467) (by decide +kernel), List.mem_of_getElem? (i := 468) (by decide +kernel)⟩
theorem lw_p11 : lw_okq (⟨"ByHand$Telling", "areAllAlike", "(I)Z"⟩, 4) := ⟨⟨by decide +kernel, by decide +kernel⟩, List.mem_of_getElem? (i := 96) (by decide +kernel), List.mem_of_getElem? (i := 485) (by decide +kernel), List.mem_of_getElem? (i := 486) (by decide +kernel)⟩
theorem lw_p12 : lw_okq (⟨"ByHand", "takeHandRow", "(IIII)I"⟩, 9) := ⟨⟨by decide +kernel, by decide +kernel⟩, List.mem_of_getElem? (i := 14) (by decide +kernel), List.mem_of_getElem? (i := 501) (by decide +kernel), List.mem_of_getElem? (i := 502) (by decide +kernel)⟩
theorem lw_p13 : lw_okq (⟨"ByHand$HandRow", "sortRow", "()V"⟩, 3) := ⟨⟨by decide +kernel, by decide +kernel⟩, List.mem_of_getElem? (i := 115) (by decide +kernel), List.mem_of_getElem? (i := 538) (by decide +kernel), List.mem_of_getElem? (i := 539) (by decide +kernel)⟩
theorem lw_p14 : lw_okq (⟨"ByHand$HandRow", "exchange", "(II)V"⟩, 3) := ⟨⟨by decide +kernel, by decide +kernel⟩, List.mem_of_getElem? (i := 115) (by decide +kernel), List.mem_of_getElem? (i := 542) (by decide +kernel), List.mem_of_getElem? (i := 543) (by decide +kernel)⟩
theorem lw_p15 : lw_okq (⟨"ByHand$HandRow", "spread", "(LByHand$Hands;I)I"⟩, 3) := ⟨⟨by decide +kernel, by decide +kernel⟩, List.mem_of_getElem? (i := 115) (by decide +kernel), List.mem_of_getElem? (i := 546) (by decide +kernel), List.mem_of_getElem? (i := 547) (by decide +kernel)⟩
def lw_privs_1 : List (MethodName × Nat) := [(⟨"ByHand", "faulty", "(I)I"⟩, 9), (⟨"ByHand$Hands", "timesOf", "(I)I"⟩, 3), (⟨"ByHand$Telling", "has", "(I)Z"⟩, 4), (⟨"ByHand$Telling", "alikeToAny", "(I)I"⟩, 4), (⟨"ByHand$Telling", "leastIn", "(I)I"⟩, 4), (⟨"ByHand", "swappedUp", "(I)I"⟩, 9), (⟨"ByHand$Sayings", "has", "(I)Z"⟩, 5), (⟨"ByHand", "falseByWeight", "(II)I"⟩, 9), (⟨"ByHand$Telling", "allThings", "()I"⟩, 4), (⟨"ByHand$Telling", "fittingBehind", "(I)I"⟩, 4), (⟨"ByHand$Telling", "heavierThanAny", "(I)I"⟩, 4), (⟨"ByHand$Telling", "areAllAlike", "(I)Z"⟩, 4), (⟨"ByHand", "takeHandRow", "(IIII)I"⟩, 9), (⟨"ByHand$HandRow", "sortRow", "()V"⟩, 3), (⟨"ByHand$HandRow", "exchange", "(II)V"⟩, 3), (⟨"ByHand$HandRow", "spread", "(LByHand$Hands;I)I"⟩, 3)]
theorem lw_r1 : ∀ q ∈ lw_privs_1, lw_okq q := List.forall_mem_cons.mpr ⟨lw_p0, List.forall_mem_cons.mpr ⟨lw_p1, List.forall_mem_cons.mpr ⟨lw_p2, List.forall_mem_cons.mpr ⟨lw_p3, List.forall_mem_cons.mpr ⟨lw_p4, List.forall_mem_cons.mpr ⟨lw_p5, List.forall_mem_cons.mpr ⟨lw_p6, List.forall_mem_cons.mpr ⟨lw_p7, List.forall_mem_cons.mpr ⟨lw_p8, List.forall_mem_cons.mpr ⟨lw_p9, List.forall_mem_cons.mpr ⟨lw_p10, List.forall_mem_cons.mpr ⟨lw_p11, List.forall_mem_cons.mpr ⟨lw_p12, List.forall_mem_cons.mpr ⟨lw_p13, List.forall_mem_cons.mpr ⟨lw_p14, List.forall_mem_cons.mpr ⟨lw_p15, fun _ h => absurd h List.not_mem_nil⟩⟩⟩⟩⟩⟩⟩⟩⟩⟩⟩⟩⟩⟩⟩⟩
theorem lw_p16 : lw_okq (⟨"ByHand$HandRow", "keepAsBest", "()V"⟩, 3) := ⟨⟨by decide +kernel, by decide +kernel⟩, List.mem_of_getElem? (i := 115) (by decide +kernel), List.mem_of_getElem? (i := 552) (by decide +kernel), List.mem_of_getElem? (i := 553) (by decide +kernel)⟩
theorem lw_p17 : lw_okq (⟨"ByHand$HandRow", "toNextOrder", "()Z"⟩, 3) := ⟨⟨by decide +kernel, by decide +kernel⟩, List.mem_of_getElem? (i := 115) (by decide +kernel), List.mem_of_getElem? (i := 556) (by decide +kernel), List.mem_of_getElem? (i := 557) (by decide +kernel)⟩
theorem lw_p18 : lw_okq (⟨"ByHand", "smithBody", "(I)I"⟩, 9) := ⟨⟨by decide +kernel, by decide +kernel⟩, List.mem_of_getElem? (i := 14) (by decide +kernel), List.mem_of_getElem? (i := 635) (by decide +kernel), List.mem_of_getElem? (i := 636) (by decide +kernel)⟩
theorem lw_p19 : lw_okq (⟨"ByHand", "leaveTrace", "(I)V"⟩, 9) := ⟨⟨by decide +kernel, by decide +kernel⟩, List.mem_of_getElem? (i := 14) (by decide +kernel), List.mem_of_getElem? (i := 639) (by decide +kernel), List.mem_of_getElem? (i := 640) (by decide +kernel)⟩
theorem lw_p20 : lw_okq (⟨"ByHand", "steadyBody", "(I)I"⟩, 9) := ⟨⟨by decide +kernel, by decide +kernel⟩, List.mem_of_getElem? (i := 14) (by decide +kernel), List.mem_of_getElem? (i := 643) (by decide +kernel), List.mem_of_getElem? (i := 644) (by decide +kernel)⟩
theorem lw_p21 : lw_okq (⟨"ByHand", "handBody", "(I)I"⟩, 9) := ⟨⟨by decide +kernel, by decide +kernel⟩, List.mem_of_getElem? (i := 14) (by decide +kernel), List.mem_of_getElem? (i := 647) (by decide +kernel), List.mem_of_getElem? (i := 648) (by decide +kernel)⟩
theorem lw_p22 : lw_okq (⟨"ByHand", "smithsOwnBody", "()I"⟩, 9) := ⟨⟨by decide +kernel, by decide +kernel⟩, List.mem_of_getElem? (i := 14) (by decide +kernel), List.mem_of_getElem? (i := 655) (by decide +kernel), List.mem_of_getElem? (i := 656) (by decide +kernel)⟩
theorem lw_p23 : lw_okq (⟨"ByHand", "lentBody", "(I)I"⟩, 9) := ⟨⟨by decide +kernel, by decide +kernel⟩, List.mem_of_getElem? (i := 14) (by decide +kernel), List.mem_of_getElem? (i := 659) (by decide +kernel), List.mem_of_getElem? (i := 660) (by decide +kernel)⟩
theorem lw_p24 : lw_okq (⟨"ByHandModel", "against", "(IIII)I"⟩, 23) := ⟨⟨by decide +kernel, by decide +kernel⟩, List.mem_of_getElem? (i := 683) (by decide +kernel), List.mem_of_getElem? (i := 772) (by decide +kernel), List.mem_of_getElem? (i := 773) (by decide +kernel)⟩
theorem lw_p25 : lw_okq (⟨"ByHandModel", "fails", "(I)I"⟩, 23) := ⟨⟨by decide +kernel, by decide +kernel⟩, List.mem_of_getElem? (i := 683) (by decide +kernel), List.mem_of_getElem? (i := 776) (by decide +kernel), List.mem_of_getElem? (i := 777) (by decide +kernel)⟩
theorem lw_p26 : lw_okq (⟨"ByHandModel", "readMarket", "(I)Z"⟩, 23) := ⟨⟨by decide +kernel, by decide +kernel⟩, List.mem_of_getElem? (i := 683) (by decide +kernel), List.mem_of_getElem? (i := 780) (by decide +kernel), List.mem_of_getElem? (i := 781) (by decide +kernel)⟩
theorem lw_p27 : lw_okq (⟨"ByHandModel", "isThing", "(I)Z"⟩, 23) := ⟨⟨by decide +kernel, by decide +kernel⟩, List.mem_of_getElem? (i := 683) (by decide +kernel), List.mem_of_getElem? (i := 788) (by decide +kernel), List.mem_of_getElem? (i := 789) (by decide +kernel)⟩
theorem lw_p28 : lw_okq (⟨"ByHandModel", "isHand", "(I)Z"⟩, 23) := ⟨⟨by decide +kernel, by decide +kernel⟩, List.mem_of_getElem? (i := 683) (by decide +kernel), List.mem_of_getElem? (i := 807) (by decide +kernel), List.mem_of_getElem? (i := 808) (by decide +kernel)⟩
theorem lw_p29 : lw_okq (⟨"ByHandModel", "isTold", "(III)Z"⟩, 23) := ⟨⟨by decide +kernel, by decide +kernel⟩, List.mem_of_getElem? (i := 683) (by decide +kernel), List.mem_of_getElem? (i := 815) (by decide +kernel), List.mem_of_getElem? (i := 816) (by decide +kernel)⟩
theorem lw_p30 : lw_okq (⟨"ByHandModel", "times", "(I)I"⟩, 23) := ⟨⟨by decide +kernel, by decide +kernel⟩, List.mem_of_getElem? (i := 683) (by decide +kernel), List.mem_of_getElem? (i := 819) (by decide +kernel), List.mem_of_getElem? (i := 820) (by decide +kernel)⟩
theorem lw_p31 : lw_okq (⟨"ByHandModel", "alikeTo", "(II)I"⟩, 23) := ⟨⟨by decide +kernel, by decide +kernel⟩, List.mem_of_getElem? (i := 683) (by decide +kernel), List.mem_of_getElem? (i := 827) (by decide +kernel), List.mem_of_getElem? (i := 828) (by decide +kernel)⟩
def lw_privs_2 : List (MethodName × Nat) := [(⟨"ByHand$HandRow", "keepAsBest", "()V"⟩, 3), (⟨"ByHand$HandRow", "toNextOrder", "()Z"⟩, 3), (⟨"ByHand", "smithBody", "(I)I"⟩, 9), (⟨"ByHand", "leaveTrace", "(I)V"⟩, 9), (⟨"ByHand", "steadyBody", "(I)I"⟩, 9), (⟨"ByHand", "handBody", "(I)I"⟩, 9), (⟨"ByHand", "smithsOwnBody", "()I"⟩, 9), (⟨"ByHand", "lentBody", "(I)I"⟩, 9), (⟨"ByHandModel", "against", "(IIII)I"⟩, 23), (⟨"ByHandModel", "fails", "(I)I"⟩, 23), (⟨"ByHandModel", "readMarket", "(I)Z"⟩, 23), (⟨"ByHandModel", "isThing", "(I)Z"⟩, 23), (⟨"ByHandModel", "isHand", "(I)Z"⟩, 23), (⟨"ByHandModel", "isTold", "(III)Z"⟩, 23), (⟨"ByHandModel", "times", "(I)I"⟩, 23), (⟨"ByHandModel", "alikeTo", "(II)I"⟩, 23)]
theorem lw_r2 : ∀ q ∈ lw_privs_2, lw_okq q := List.forall_mem_cons.mpr ⟨lw_p16, List.forall_mem_cons.mpr ⟨lw_p17, List.forall_mem_cons.mpr ⟨lw_p18, List.forall_mem_cons.mpr ⟨lw_p19, List.forall_mem_cons.mpr ⟨lw_p20, List.forall_mem_cons.mpr ⟨lw_p21, List.forall_mem_cons.mpr ⟨lw_p22, List.forall_mem_cons.mpr ⟨lw_p23, List.forall_mem_cons.mpr ⟨lw_p24, List.forall_mem_cons.mpr ⟨lw_p25, List.forall_mem_cons.mpr ⟨lw_p26, List.forall_mem_cons.mpr ⟨lw_p27, List.forall_mem_cons.mpr ⟨lw_p28, List.forall_mem_cons.mpr ⟨lw_p29, List.forall_mem_cons.mpr ⟨lw_p30, List.forall_mem_cons.mpr ⟨lw_p31, fun _ h => absurd h List.not_mem_nil⟩⟩⟩⟩⟩⟩⟩⟩⟩⟩⟩⟩⟩⟩⟩⟩
theorem lw_p32 : lw_okq (⟨"ByHandModel", "areAlike", "(III)Z"⟩, 23) := ⟨⟨by decide +kernel, by decide +kernel⟩, List.mem_of_getElem? (i := 683) (by decide +kernel), List.mem_of_getElem? (i := 831) (by decide +kernel), List.mem_of_getElem? (i := 832) (by decide +kernel)⟩
theorem lw_p33 : lw_okq (⟨"ByHandModel", "tellsThem", "(III)Z"⟩, 23) := ⟨⟨by decide +kernel, by decide +kernel⟩, List.mem_of_getElem? (i := 683) (by decide +kernel), List.mem_of_getElem? (i := 835) (by decide +kernel), List.mem_of_getElem? (i := 836) (by decide +kernel)⟩
theorem lw_p34 : lw_okq (⟨"ByHandModel", "findFar", "(II)V"⟩, 23) := ⟨⟨by decide +kernel, by decide +kernel⟩, List.mem_of_getElem? (i := 683) (by decide +kernel), List.mem_of_getElem? (i := 847) (by decide +kernel), List.mem_of_getElem? (i := 848) (by decide +kernel)⟩
theorem lw_p35 : lw_okq (⟨"ByHandModel", "nextOf", "(II)I"⟩, 23) := ⟨⟨by decide +kernel, by decide +kernel⟩, List.mem_of_getElem? (i := 683) (by decide +kernel), List.mem_of_getElem? (i := 851) (by decide +kernel), List.mem_of_getElem? (i := 852) (by decide +kernel)⟩
theorem lw_p36 : lw_okq (⟨"ByHandModel", "isGot", "(IIII)Z"⟩, 23) := ⟨⟨by decide +kernel, by decide +kernel⟩, List.mem_of_getElem? (i := 683) (by decide +kernel), List.mem_of_getElem? (i := 863) (by decide +kernel), List.mem_of_getElem? (i := 864) (by decide +kernel)⟩
theorem lw_p37 : lw_okq (⟨"ByHandModel", "isSo", "(I)Z"⟩, 23) := ⟨⟨by decide +kernel, by decide +kernel⟩, List.mem_of_getElem? (i := 683) (by decide +kernel), List.mem_of_getElem? (i := 879) (by decide +kernel), List.mem_of_getElem? (i := 880) (by decide +kernel)⟩
theorem lw_p38 : lw_okq (⟨"ByHandModel", "falseOf", "(I)I"⟩, 23) := ⟨⟨by decide +kernel, by decide +kernel⟩, List.mem_of_getElem? (i := 683) (by decide +kernel), List.mem_of_getElem? (i := 887) (by decide +kernel), List.mem_of_getElem? (i := 888) (by decide +kernel)⟩
theorem lw_p39 : lw_okq (⟨"ByHandModel", "inFirstRow", "(II)I"⟩, 23) := ⟨⟨by decide +kernel, by decide +kernel⟩, List.mem_of_getElem? (i := 683) (by decide +kernel), List.mem_of_getElem? (i := 899) (by decide +kernel), List.mem_of_getElem? (i := 900) (by decide +kernel)⟩
theorem lw_p40 : lw_okq (⟨"ByHandModel", "mayStand", "(III)Z"⟩, 23) := ⟨⟨by decide +kernel, by decide +kernel⟩, List.mem_of_getElem? (i := 683) (by decide +kernel), List.mem_of_getElem? (i := 903) (by decide +kernel), List.mem_of_getElem? (i := 904) (by decide +kernel)⟩
theorem lw_p41 : lw_okq (⟨"ByHandModel", "isCrowd", "(II)Z"⟩, 23) := ⟨⟨by decide +kernel, by decide +kernel⟩, List.mem_of_getElem? (i := 683) (by decide +kernel), List.mem_of_getElem? (i := 918) (by decide +kernel), List.mem_of_getElem? (i := 919) (by decide +kernel)⟩
theorem lw_p42 : lw_okq (⟨"ByHandModel", "layRow", "(III)I"⟩, 23) := ⟨⟨by decide +kernel, by decide +kernel⟩, List.mem_of_getElem? (i := 683) (by decide +kernel), List.mem_of_getElem? (i := 930) (by decide +kernel), List.mem_of_getElem? (i := 931) (by decide +kernel)⟩
theorem lw_p43 : lw_okq (⟨"ByHandModel", "copied", "(III)I"⟩, 23) := ⟨⟨by decide +kernel, by decide +kernel⟩, List.mem_of_getElem? (i := 683) (by decide +kernel), List.mem_of_getElem? (i := 934) (by decide +kernel), List.mem_of_getElem? (i := 935) (by decide +kernel)⟩
theorem lw_p44 : lw_okq (⟨"ByHandModel", "greatest", "(II)I"⟩, 23) := ⟨⟨by decide +kernel, by decide +kernel⟩, List.mem_of_getElem? (i := 683) (by decide +kernel), List.mem_of_getElem? (i := 938) (by decide +kernel), List.mem_of_getElem? (i := 939) (by decide +kernel)⟩
theorem lw_p45 : lw_okq (⟨"ByHandModel", "least", "(II)I"⟩, 23) := ⟨⟨by decide +kernel, by decide +kernel⟩, List.mem_of_getElem? (i := 683) (by decide +kernel), List.mem_of_getElem? (i := 942) (by decide +kernel), List.mem_of_getElem? (i := 943) (by decide +kernel)⟩
theorem lw_p46 : lw_okq (⟨"ByHandModel", "findBestRow", "(II)I"⟩, 23) := ⟨⟨by decide +kernel, by decide +kernel⟩, List.mem_of_getElem? (i := 683) (by decide +kernel), List.mem_of_getElem? (i := 950) (by decide +kernel), List.mem_of_getElem? (i := 951) (by decide +kernel)⟩
theorem lw_p47 : lw_okq (⟨"ByHandModel", "exchange", "(II)V"⟩, 23) := ⟨⟨by decide +kernel, by decide +kernel⟩, List.mem_of_getElem? (i := 683) (by decide +kernel), List.mem_of_getElem? (i := 954) (by decide +kernel), List.mem_of_getElem? (i := 955) (by decide +kernel)⟩
def lw_privs_3 : List (MethodName × Nat) := [(⟨"ByHandModel", "areAlike", "(III)Z"⟩, 23), (⟨"ByHandModel", "tellsThem", "(III)Z"⟩, 23), (⟨"ByHandModel", "findFar", "(II)V"⟩, 23), (⟨"ByHandModel", "nextOf", "(II)I"⟩, 23), (⟨"ByHandModel", "isGot", "(IIII)Z"⟩, 23), (⟨"ByHandModel", "isSo", "(I)Z"⟩, 23), (⟨"ByHandModel", "falseOf", "(I)I"⟩, 23), (⟨"ByHandModel", "inFirstRow", "(II)I"⟩, 23), (⟨"ByHandModel", "mayStand", "(III)Z"⟩, 23), (⟨"ByHandModel", "isCrowd", "(II)Z"⟩, 23), (⟨"ByHandModel", "layRow", "(III)I"⟩, 23), (⟨"ByHandModel", "copied", "(III)I"⟩, 23), (⟨"ByHandModel", "greatest", "(II)I"⟩, 23), (⟨"ByHandModel", "least", "(II)I"⟩, 23), (⟨"ByHandModel", "findBestRow", "(II)I"⟩, 23), (⟨"ByHandModel", "exchange", "(II)V"⟩, 23)]
theorem lw_r3 : ∀ q ∈ lw_privs_3, lw_okq q := List.forall_mem_cons.mpr ⟨lw_p32, List.forall_mem_cons.mpr ⟨lw_p33, List.forall_mem_cons.mpr ⟨lw_p34, List.forall_mem_cons.mpr ⟨lw_p35, List.forall_mem_cons.mpr ⟨lw_p36, List.forall_mem_cons.mpr ⟨lw_p37, List.forall_mem_cons.mpr ⟨lw_p38, List.forall_mem_cons.mpr ⟨lw_p39, List.forall_mem_cons.mpr ⟨lw_p40, List.forall_mem_cons.mpr ⟨lw_p41, List.forall_mem_cons.mpr ⟨lw_p42, List.forall_mem_cons.mpr ⟨lw_p43, List.forall_mem_cons.mpr ⟨lw_p44, List.forall_mem_cons.mpr ⟨lw_p45, List.forall_mem_cons.mpr ⟨lw_p46, List.forall_mem_cons.mpr ⟨lw_p47, fun _ h => absurd h List.not_mem_nil⟩⟩⟩⟩⟩⟩⟩⟩⟩⟩⟩⟩⟩⟩⟩⟩
theorem lw_p48 : lw_okq (⟨"ByHandModel", "nextRow", "(I)Z"⟩, 23) := ⟨⟨by decide +kernel, by decide +kernel⟩, List.mem_of_getElem? (i := 683) (by decide +kernel), List.mem_of_getElem? (i := 958) (by decide +kernel), List.mem_of_getElem? (i := 959) (by decide +kernel)⟩
theorem lw_p49 : lw_okq (⟨"ByHandModel", "areEven", "(III)Z"⟩, 23) := ⟨⟨by decide +kernel, by decide +kernel⟩, List.mem_of_getElem? (i := 683) (by decide +kernel), List.mem_of_getElem? (i := 966) (by decide +kernel), List.mem_of_getElem? (i := 967) (by decide +kernel)⟩
theorem lw_p50 : lw_okq (⟨"ByHandModel", "sumOf", "(I)I"⟩, 23) := ⟨⟨by decide +kernel, by decide +kernel⟩, List.mem_of_getElem? (i := 683) (by decide +kernel), List.mem_of_getElem? (i := 970) (by decide +kernel), List.mem_of_getElem? (i := 971) (by decide +kernel)⟩
theorem lw_p51 : lw_okq (⟨"ByHandModel", "lost", "(I)J"⟩, 23) := ⟨⟨by decide +kernel, by decide +kernel⟩, List.mem_of_getElem? (i := 683) (by decide +kernel), List.mem_of_getElem? (i := 998) (by decide +kernel), List.mem_of_getElem? (i := 999) (by decide +kernel)⟩
theorem lw_p52 : lw_okq (⟨"ByHandModel", "begins", "(I)V"⟩, 23) := ⟨⟨by decide +kernel, by decide +kernel⟩, List.mem_of_getElem? (i := 683) (by decide +kernel), List.mem_of_getElem? (i := 1010) (by decide +kernel), List.mem_of_getElem? (i := 1011) (by decide +kernel)⟩
def lw_privs_4 : List (MethodName × Nat) := [(⟨"ByHandModel", "nextRow", "(I)Z"⟩, 23), (⟨"ByHandModel", "areEven", "(III)Z"⟩, 23), (⟨"ByHandModel", "sumOf", "(I)I"⟩, 23), (⟨"ByHandModel", "lost", "(I)J"⟩, 23), (⟨"ByHandModel", "begins", "(I)V"⟩, 23)]
theorem lw_r4 : ∀ q ∈ lw_privs_4, lw_okq q := List.forall_mem_cons.mpr ⟨lw_p48, List.forall_mem_cons.mpr ⟨lw_p49, List.forall_mem_cons.mpr ⟨lw_p50, List.forall_mem_cons.mpr ⟨lw_p51, List.forall_mem_cons.mpr ⟨lw_p52, fun _ h => absurd h List.not_mem_nil⟩⟩⟩⟩⟩
def lw_privs : List (MethodName × Nat) := lw_privs_1 ++ (lw_privs_2 ++ (lw_privs_3 ++ (lw_privs_4)))
def lw_tbl : List Cond := k2_sels lw_privs ++ tables_1
theorem lw_privs_ok : ∀ q ∈ lw_privs, lw_okq q := by
  show ∀ q ∈ lw_privs_1 ++ (lw_privs_2 ++ (lw_privs_3 ++ (lw_privs_4))), lw_okq q
  exact List.forall_mem_append.mpr ⟨lw_r1, List.forall_mem_append.mpr ⟨lw_r2, List.forall_mem_append.mpr ⟨lw_r3, lw_r4⟩⟩⟩
-- ===== end of PART A; then your names; then what follows =====
theorem goodIn_r {big : List Cond} (ws : List Cond) (ps : List Nat) (hp : ws = ps.filterMap (fun i => big[i]?)) (h : ws.all goodWord = true) : GoodIn big ws := by
  intro w hw
  have h1 := List.all_eq_true.mp h w hw
  rw [hp] at hw
  obtain ⟨i, -, hi⟩ := List.mem_filterMap.mp hw
  have hm : w ∈ big := by first | exact List.mem_of_getElem? hi | exact List.getElem?_mem hi
  exact ⟨hm, good_of_word h1⟩
theorem goodIn_app {big a b : List Cond} (ha : GoodIn big a) (hb : GoodIn big b) : GoodIn big (a ++ b) := fun w h => (List.mem_append.mp h).elim (ha w) (hb w)
theorem goodIn_ca {big a b : List Cond} {c : Cond} (ha : GoodIn big (c :: a)) (hb : GoodIn big b) : GoodIn big (c :: (a ++ b)) := fun w h => (List.mem_cons.mp h).elim (fun e => ha w (List.mem_cons.mpr (Or.inl e))) (fun h => (List.mem_append.mp h).elim (fun h => ha w (List.mem_cons.mpr (Or.inr h))) (hb w))
theorem goodIn_sub {big ws : List Cond} (hm : ∀ w ∈ ws, w ∈ big) (h : ws.all goodWord = true) : GoodIn big ws := fun w hw => ⟨hm w hw, good_of_word (List.all_eq_true.mp h w hw)⟩
def vr_up {α : Type} (f : Nat → α) (l : List Nat) (v : α) : Nat → α := fun a => if a ∈ l then v else f a
theorem vr_up_in {α : Type} {f : Nat → α} {l : List Nat} {v : α} {a : Nat} (h : a ∈ l) : vr_up f l v a = v := if_pos h
theorem vr_up_ne {α : Type} {f : Nat → α} {l : List Nat} {v : α} {a : Nat} (h : a ∉ l) : vr_up f l v a = f a := if_neg h
theorem vr_rows {L l : List Nat} {f : Nat → va_E} {e : va_E} (h : ∀ a, a ∈ l → a ∉ L) : va_pl L f ++ l.map (fun a => (a, e)) = va_pl (L ++ l) (vr_up f l e) := by
  unfold va_pl
  rw [List.map_append]
  congr 1
  · apply List.map_congr_left
    intro a ha
    rw [vr_up_ne (fun q => h a q ha)]
  · apply List.map_congr_left
    intro a ha
    rw [vr_up_in ha]
theorem vr_lay {X rows : va_W} {x : Nat × va_E} {pl : va_W} {D : va_G} {cl : List vw_C} {H : Heap} (hP : va_P D cl (((X ++ pl) ++ [x]) ++ rows) H) : va_P D cl ((X ++ [x]) ++ (pl ++ rows)) H := by
  rw [List.append_assoc (X ++ pl)] at hP
  have h := va_P.swap hP
  rw [← List.append_assoc X] at h
  have h2 := va_P.swap h
  rw [List.append_assoc (X ++ [x])] at h2
  exact h2
theorem vr_layD {X rows : va_W} {x : Nat × va_E} {pl : va_W} {A : Nat → Prop} (hD : va_D A (((X ++ pl) ++ [x]) ++ rows)) : va_D A ((X ++ [x]) ++ (pl ++ rows)) := by
  rw [List.append_assoc (X ++ pl)] at hD
  have h := va_D.swap hD
  rw [← List.append_assoc X] at h
  have h2 := va_D.swap h
  rw [List.append_assoc (X ++ [x])] at h2
  exact h2
theorem vr_outer (c : ClassId) (N h0 : Nat) : ∀ i : Nat, Jvm.Free.Multi.outerC c N h0 i = arrV c N (fun j => va_rf (if j < i then some (h0 + 1 + j) else none))
  | 0 => by
    show ({ cls := c, slots := Array.replicate N .null, vm := .none } : Cell) = _
    rw [arrV_new]
    refine congrArg (arrV c N) (funext fun j => ?_)
    simp [va_rf]
  | i + 1 => by
    show (Jvm.Free.Multi.outerC c N h0 i).setSlot i (.ref (h0 + 1 + i)) = _
    rw [vr_outer c N h0 i, arrV_store]
    refine congrArg (arrV c N) (funext fun j => ?_)
    by_cases e : j = i
    · subst e
      simp [updV, va_rf]
    · by_cases h : j < i
      · simp [updV, e, h, Nat.lt_succ_of_lt h]
      · simp [updV, e, h, show ¬ j < i + 1 by omega]
section VGM
variable {p : Program} {l : Launch} {e : Env} {R : Room} {s : State} {m : MethodId} {args : Array Value} {below : List Frame} {meth : Method} {c : Code} {H : Heap} {locs : List Loc} {cells slots : Nat} {Q : State → Prop}
variable {cc : ByteArray} {pc : Nat} {ls : Array Slot} {rest : List Value} {D : va_G} {cl : List vw_C} {A : Nat → Prop} {a : Nat} {tys : List (ClassId × FieldType)} {ws : va_W} {H0 : Heap}
theorem va_mna {X : va_W} {L : List Nat} {f : Nat → va_E} {cc : ByteArray} (hexec : p.tables.exec = Jvm.exec) (hb : c.code = cc) {own : String} {index : Nat} {ty : FieldType} {cy : ClassId} (hown : s.vm.findClass own = some m.cls) (hclink : (Cond.classLink own index ("[" ++ (FieldType.array ty).toString)).before args s = true) (hover : va_AOA ty s) (harr : (Cond.arrayClass ty).before args s = true) (hcy : s.vm.findClass (FieldType.array ty).toString = some cy)
    (hK : va_K D cl tys s) (hP : va_P D cl (X ++ va_pl L f) H) (hD : va_D A (X ++ va_pl L f)) (hS : va_S A H0 H locs) (hA : ∀ q, H0.size ≤ q → A q) {n k : Int32} {N' K' : Nat} {z : vp_A} (hn : ¬ n < 0) (hk : ¬ k < 0) (hN : n.toNatClampNeg = N') (hM : k.toNatClampNeg = K')
    (hb1 : N' * 4 ≤ 536870912) (hb2 : K' * componentBytes ty ≤ 536870912) (hb3 : K' ≤ 536870912) (hdf : fits ty (defaultValue ty) = true) (hdd : (defaultValue ty).isDefault = true) (hcells : cells + (1 + N') ≤ R.cells) (hslots : slots + (N' + N' * K') ≤ R.slots) (hz : ∀ c : ClassId, Jvm.Free.Multi.innerC c K' (defaultValue ty) = vp_cell c z) (hdg : decode cc pc = .ok (.multianewarray index 2, 4))
    (kk : ∀ (q : Nat) (r : Nat → Nat) (cA : ClassId) (H1 : Heap), (∀ i j : Nat, i < N' → j < N' → r i = r j → i = j) → (∀ i : Nat, i < N' → r i ∉ L) → va_K D cl (tys ++ [(cA, .array ty)]) s →
      va_P D cl ((X ++ [(q, .inl (cA, N', .inr (.inr (.inr (.inr (fun i => if i < N' then some (r i) else none))))))]) ++ va_pl (L ++ (List.range N').map r) (vr_up f ((List.range N').map r) (.inl (cy, z)))) H1 → va_D A ((X ++ [(q, .inl (cA, N', .inr (.inr (.inr (.inr (fun i => if i < N' then some (r i) else none))))))]) ++ va_pl (L ++ (List.range N').map r) (vr_up f ((List.range N').map r) (.inl (cy, z)))) → va_S A H0 H1 locs →
      W p l e R s m args below meth c H1 locs (cells + 1 + N') (slots + N' + N' * K') Q (F0 m (pc + 4) ls (.ref q :: rest))) : W p l e R s m args below meth c H locs cells slots Q (F0 m pc ls (.int k :: .int n :: rest)) := by
  subst hN
  subst hM
  intro T hT Xs
  obtain ⟨vm₁, cA, comp, -, fA, fC, hO, -, X', step⟩ := Xs.multianewarray2F hexec hown hclink (va_AOA.use hover) harr (g := F0 m pc ls (.int k :: .int n :: rest)) rfl (by rw [hb]; exact hdg) rfl hn hk hb1 hb2 hb3 hdf hdd hcells hslots
  have ec : some cy = some comp := hcy.symm.trans fC
  cases ec
  generalize hF : Jvm.Free.Multi.fill (T.setVm vm₁) cA cy n.toNatClampNeg k.toNatClampNeg (defaultValue ty) n.toNatClampNeg = F at X' step
  have hTh : (T.setVm vm₁).heap = H := hT
  obtain ⟨f1, f2, -, -⟩ := Jvm.Free.Multi.fill_facts (T.setVm vm₁) cA cy n.toNatClampNeg k.toNatClampNeg (defaultValue ty) n.toNatClampNeg
  rw [hF, hTh] at f1 f2
  have hold : ∀ x : Nat, x < H.size → F.heap[x]? = H[x]? := fun x hx => by
    have := Jvm.Free.Multi.fill_old (T.setVm vm₁) cA cy n.toNatClampNeg k.toNatClampNeg (defaultValue ty) (a := x) (by rw [hTh]; exact hx) n.toNatClampNeg
    rw [hF, hTh] at this
    exact this
  have hrow : ∀ j : Nat, j < n.toNatClampNeg → F.heap[H.size + 1 + j]? = some (vp_cell cy z) := fun j hj => by
    have := Jvm.Free.Multi.fill_inner (T.setVm vm₁) cA cy n.toNatClampNeg k.toNatClampNeg (defaultValue ty) n.toNatClampNeg j hj
    rw [hF, hTh, hz] at this
    exact this
  have hout : Jvm.Free.Multi.outerC cA n.toNatClampNeg H.size n.toNatClampNeg = vp_cell cA (n.toNatClampNeg, .inr (.inr (.inr (.inr (fun i => if i < n.toNatClampNeg then some (H.size + 1 + i) else none))))) := by
    rw [vp_cell_q]
    exact vr_outer cA n.toNatClampNeg H.size n.toNatClampNeg
  rw [hout] at f2
  have hlt : ∀ a, a ∈ L → a < H.size := fun a ha => by
    obtain ⟨k9, hk9⟩ := va_pl_get (X := X) (f := f) ha
    exact (hP k9 _ hk9).lt
  have hnl : ∀ i : Nat, i < n.toNatClampNeg → H.size + 1 + i ∉ L := fun i _ h => by
    have := hlt _ h
    omega
  have hnm : ∀ a, a ∈ (List.range n.toNatClampNeg).map (fun i => H.size + 1 + i) → a ∉ L := fun a ha h => by
    obtain ⟨i, -, rfl⟩ := List.mem_map.mp ha
    have := hlt _ h
    omega
  have hP0 : va_P D cl (X ++ va_pl L f) F.heap := hP.kept (fun k9 x hx => hold x.1 ((hP k9 x hx).lt))
  have hP1 : va_P D cl ((X ++ va_pl L f) ++ [(H.size, .inl (cA, n.toNatClampNeg, .inr (.inr (.inr (.inr (fun i => if i < n.toNatClampNeg then some (H.size + 1 + i) else none))))))]) F.heap := hP0.app (fun k9 x hx => by
    have h0 : k9 < 1 := (List.getElem?_eq_some_iff.mp hx).1
    rw [show k9 = 0 by omega] at hx
    cases hx
    exact f2)
  have hP2 : va_P D cl (((X ++ va_pl L f) ++ [(H.size, .inl (cA, n.toNatClampNeg, .inr (.inr (.inr (.inr (fun i => if i < n.toNatClampNeg then some (H.size + 1 + i) else none))))))]) ++ ((List.range n.toNatClampNeg).map (fun i => H.size + 1 + i)).map (fun a => (a, .inl (cy, z)))) F.heap := hP1.app (fun k9 x hx => by
    obtain ⟨a, ha, rfl⟩ := List.mem_map.mp (List.mem_of_getElem? hx)
    obtain ⟨i, hi, rfl⟩ := List.mem_map.mp ha
    exact hrow i (List.mem_range.mp hi))
  have hD2 : va_D A (((X ++ va_pl L f) ++ [(H.size, .inl (cA, n.toNatClampNeg, .inr (.inr (.inr (.inr (fun i => if i < n.toNatClampNeg then some (H.size + 1 + i) else none))))))]) ++ ((List.range n.toNatClampNeg).map (fun i => H.size + 1 + i)).map (fun a => (a, .inl (cy, z)))) := by
    have hD1 := hD.push (e := .inl (cA, n.toNatClampNeg, .inr (.inr (.inr (.inr (fun i => if i < n.toNatClampNeg then some (H.size + 1 + i) else none)))))) hP rfl (hA _ hS.1)
    generalize hW1 : (X ++ va_pl L f) ++ [(H.size, .inl (cA, n.toNatClampNeg, .inr (.inr (.inr (.inr (fun i => if i < n.toNatClampNeg then some (H.size + 1 + i) else none))))))] = W1 at hD1 hP1 ⊢
    have hle : ∀ (k9 : Nat) (x : Nat × va_E), W1[k9]? = some x → x.1 ≤ H.size := fun k9 x hx => by
      rw [← hW1] at hx
      by_cases hl : k9 < (X ++ va_pl L f).length
      · rw [List.getElem?_append_left hl] at hx
        exact Nat.le_of_lt ((hP k9 x hx).lt)
      · rw [List.getElem?_append_right (by omega)] at hx
        have h0 : k9 - (X ++ va_pl L f).length < 1 := (List.getElem?_eq_some_iff.mp hx).1
        rw [show k9 - (X ++ va_pl L f).length = 0 by omega] at hx
        cases hx
        exact Nat.le_refl _
    have hr : ∀ (k9 : Nat) (x : Nat × va_E), (((List.range n.toNatClampNeg).map (fun i => H.size + 1 + i)).map (fun a => ((a, .inl (cy, z)) : Nat × va_E)))[k9]? = some x → x.1 = H.size + 1 + k9 := fun k9 x hx => by
      rw [List.getElem?_map, List.getElem?_map] at hx
      by_cases h9 : k9 < n.toNatClampNeg
      · rw [List.getElem?_range h9] at hx
        cases hx
        rfl
      · have hn0 : (List.range n.toNatClampNeg)[k9]? = none := List.getElem?_eq_none (by rw [List.length_range]; omega)
        rw [hn0] at hx
        cases hx
    refine ⟨fun i j x y hi hj hxy => ?_, fun k9 x hx => ?_⟩
    · by_cases h1 : i < W1.length <;> by_cases h2 : j < W1.length
      · rw [List.getElem?_append_left h1] at hi
        rw [List.getElem?_append_left h2] at hj
        exact hD1.1 i j x y hi hj hxy
      · rw [List.getElem?_append_left h1] at hi
        rw [List.getElem?_append_right (by omega)] at hj
        have := hle _ _ hi
        have := hr _ _ hj
        omega
      · rw [List.getElem?_append_right (by omega)] at hi
        rw [List.getElem?_append_left h2] at hj
        have := hle _ _ hj
        have := hr _ _ hi
        omega
      · rw [List.getElem?_append_right (by omega)] at hi hj
        have := hr _ _ hi
        have := hr _ _ hj
        omega
    · by_cases h1 : k9 < W1.length
      · rw [List.getElem?_append_left h1] at hx
        exact hD1.2 k9 x hx
      · rw [List.getElem?_append_right (by omega)] at hx
        have := hr _ _ hx
        exact hA _ (by have := hS.1; omega)
  have hAr : ArrOfT s cA (.array ty) := fun N9 z9 => by
    obtain ⟨-, k9, hk9, cm9, hkk9⟩ := (hO 0 0 0).1
    exact ⟨(fun q hq => by cases hq), k9, hk9, cm9, hkk9⟩
  have hK2 : va_K D cl (tys ++ [(cA, .array ty)]) s := ⟨hK.1, fun k9 x hx => by
    by_cases hl : k9 < tys.length
    · rw [List.getElem?_append_left hl] at hx
      exact hK.2 k9 x hx
    · rw [List.getElem?_append_right (by omega)] at hx
      have h0 : k9 - tys.length < 1 := (List.getElem?_eq_some_iff.mp hx).1
      rw [show k9 - tys.length = 0 by omega] at hx
      cases hx
      exact ⟨hAr, fA⟩⟩
  obtain ⟨t, a1, b1⟩ := kk H.size (fun i => H.size + 1 + i) cA F.heap (fun i j _ _ h => by have h9 : H.size + 1 + i = H.size + 1 + j := h; omega) hnl hK2 (by rw [← vr_rows hnm]; exact vr_lay hP2) (by rw [← vr_rows hnm]; exact vr_layD hD2) ⟨by rw [f1]; have := hS.1; omega, fun x h1 h2 => (hold x (Nat.lt_of_lt_of_le h1 hS.1)).trans (hS.2.1 x h1 h2), hS.2.2⟩ F rfl X'
  refine ⟨t, step t ?_, b1⟩
  have e : T.heap.size = H.size := by rw [hT]
  rw [e]
  exact a1
end VGM
def RX0 : String := "ByHand$HandRow"
def TX0 : u_T := fun k => match k with
  | 0 => ("ByHand$HandRow", "count", "I", false)
  | 1 => ("ByHand$HandRow", "row", "[I", true)
  | _ => ("ByHand$HandRow", "best", "[I", true)
def tyX0 : Nat → FieldType := fun k => match k with
  | 0 => .int
  | 1 => .array .int
  | _ => .array .int
abbrev wsX00 : List Cond := u_ws RX0 TX0 3
theorem nmX0 : ∀ a, a < 3 → ∀ b, b < 3 → a ≠ b → (TX0 a).2.1 ≠ (TX0 b).2.1 := by decide +kernel
theorem tyX0_ok : ∀ k, k < 3 → parseFieldDescriptor (TX0 k).2.2.1 = some (tyX0 k) := by decide +kernel
abbrev cX0_init : ByteArray := prog_2_method_1_code
def yX0_init : MethodName := ⟨RX0, "<init>", "()V"⟩
abbrev cX0_clear : ByteArray := prog_2_method_2_code
def yX0_clear : MethodName := ⟨RX0, "clear", "()V"⟩
abbrev cX0_add : ByteArray := prog_2_method_3_code
def yX0_add : MethodName := ⟨RX0, "add", "(I)V"⟩
abbrev cX0_greatestCopy : ByteArray := prog_2_method_4_code
def yX0_greatestCopy : MethodName := ⟨RX0, "greatestCopy", "(LByHand$Hands;I)I"⟩
abbrev cX0_leastCopy : ByteArray := prog_2_method_5_code
def yX0_leastCopy : MethodName := ⟨RX0, "leastCopy", "(LByHand$Hands;I)I"⟩
abbrev cX0_spread : ByteArray := prog_2_method_6_code
def yX0_spread : MethodName := ⟨RX0, "spread", "(LByHand$Hands;I)I"⟩
abbrev cX0_findBest : ByteArray := prog_2_method_7_code
def yX0_findBest : MethodName := ⟨RX0, "findBest", "(LByHand$Hands;I)I"⟩
abbrev cX0_inBest : ByteArray := prog_2_method_8_code
def yX0_inBest : MethodName := ⟨RX0, "inBest", "(I)I"⟩
abbrev cX0_keepAsBest : ByteArray := prog_2_method_9_code
def yX0_keepAsBest : MethodName := ⟨RX0, "keepAsBest", "()V"⟩
abbrev cX0_sortRow : ByteArray := prog_2_method_10_code
def yX0_sortRow : MethodName := ⟨RX0, "sortRow", "()V"⟩
abbrev cX0_toNextOrder : ByteArray := prog_2_method_11_code
def yX0_toNextOrder : MethodName := ⟨RX0, "toNextOrder", "()Z"⟩
abbrev cX0_exchange : ByteArray := prog_2_method_12_code
def yX0_exchange : MethodName := ⟨RX0, "exchange", "(II)V"⟩
def RX1 : String := "ByHand$Hands"
def TX1 : u_T := fun k => match k with
  | 0 => ("ByHand$Hands", "count", "I", false)
  | 1 => ("ByHand$Hands", "kinds", "[I", true)
  | _ => ("ByHand$Hands", "parts", "[I", true)
def tyX1 : Nat → FieldType := fun k => match k with
  | 0 => .int
  | 1 => .array .int
  | _ => .array .int
abbrev wsX10 : List Cond := u_ws RX1 TX1 3
theorem nmX1 : ∀ a, a < 3 → ∀ b, b < 3 → a ≠ b → (TX1 a).2.1 ≠ (TX1 b).2.1 := by decide +kernel
theorem tyX1_ok : ∀ k, k < 3 → parseFieldDescriptor (TX1 k).2.2.1 = some (tyX1 k) := by decide +kernel
abbrev cX1_init : ByteArray := prog_3_method_1_code
def yX1_init : MethodName := ⟨RX1, "<init>", "()V"⟩
abbrev cX1_count : ByteArray := prog_3_method_2_code
def yX1_count : MethodName := ⟨RX1, "count", "()I"⟩
abbrev cX1_has : ByteArray := prog_3_method_3_code
def yX1_has : MethodName := ⟨RX1, "has", "(I)Z"⟩
abbrev cX1_kindOf : ByteArray := prog_3_method_4_code
def yX1_kindOf : MethodName := ⟨RX1, "kindOf", "(I)I"⟩
abbrev cX1_partOf : ByteArray := prog_3_method_5_code
def yX1_partOf : MethodName := ⟨RX1, "partOf", "(I)I"⟩
abbrev cX1_clear : ByteArray := prog_3_method_6_code
def yX1_clear : MethodName := ⟨RX1, "clear", "()V"⟩
abbrev cX1_add : ByteArray := prog_3_method_7_code
def yX1_add : MethodName := ⟨RX1, "add", "(II)I"⟩
abbrev cX1_timesOf : ByteArray := prog_3_method_8_code
def yX1_timesOf : MethodName := ⟨RX1, "timesOf", "(I)I"⟩
abbrev cX1_feelsHeavier : ByteArray := prog_3_method_9_code
def yX1_feelsHeavier : MethodName := ⟨RX1, "feelsHeavier", "(III)Z"⟩
abbrev cX1_feelsAlike : ByteArray := prog_3_method_10_code
def yX1_feelsAlike : MethodName := ⟨RX1, "feelsAlike", "(III)Z"⟩
abbrev cX1_greatestUntold : ByteArray := prog_3_method_11_code
def yX1_greatestUntold : MethodName := ⟨RX1, "greatestUntold", "(II)I"⟩
abbrev cX1_leastUntold : ByteArray := prog_3_method_12_code
def yX1_leastUntold : MethodName := ⟨RX1, "leastUntold", "(II)I"⟩
def RX2 : String := "ByHand$Sayings"
def TX2 : u_T := fun k => match k with
  | 0 => ("ByHand$Sayings", "count", "I", false)
  | 1 => ("ByHand$Sayings", "sayers", "[I", true)
  | 2 => ("ByHand$Sayings", "firsts", "[I", true)
  | 3 => ("ByHand$Sayings", "seconds", "[I", true)
  | _ => ("ByHand$Sayings", "words", "[I", true)
def tyX2 : Nat → FieldType := fun k => match k with
  | 0 => .int
  | 1 => .array .int
  | 2 => .array .int
  | 3 => .array .int
  | _ => .array .int
abbrev wsX20 : List Cond := u_ws RX2 TX2 5
theorem nmX2 : ∀ a, a < 5 → ∀ b, b < 5 → a ≠ b → (TX2 a).2.1 ≠ (TX2 b).2.1 := by decide +kernel
theorem tyX2_ok : ∀ k, k < 5 → parseFieldDescriptor (TX2 k).2.2.1 = some (tyX2 k) := by decide +kernel
abbrev cX2_init : ByteArray := prog_4_method_1_code
def yX2_init : MethodName := ⟨RX2, "<init>", "()V"⟩
abbrev cX2_count : ByteArray := prog_4_method_2_code
def yX2_count : MethodName := ⟨RX2, "count", "()I"⟩
abbrev cX2_has : ByteArray := prog_4_method_3_code
def yX2_has : MethodName := ⟨RX2, "has", "(I)Z"⟩
abbrev cX2_firstOf : ByteArray := prog_4_method_4_code
def yX2_firstOf : MethodName := ⟨RX2, "firstOf", "(I)I"⟩
abbrev cX2_secondOf : ByteArray := prog_4_method_5_code
def yX2_secondOf : MethodName := ⟨RX2, "secondOf", "(I)I"⟩
abbrev cX2_clear : ByteArray := prog_4_method_6_code
def yX2_clear : MethodName := ⟨RX2, "clear", "()V"⟩
abbrev cX2_add : ByteArray := prog_4_method_7_code
def yX2_add : MethodName := ⟨RX2, "add", "(IIII)I"⟩
abbrev cX2_takeBack : ByteArray := prog_4_method_8_code
def yX2_takeBack : MethodName := ⟨RX2, "takeBack", "(I)I"⟩
abbrev cX2_isFalse : ByteArray := prog_4_method_9_code
def yX2_isFalse : MethodName := ⟨RX2, "isFalse", "(ILByHand$Hands;II)Z"⟩
def RX3 : String := "ByHand$Sheets"
def TX3 : u_T := fun k => match k with
  | 0 => ("ByHand$Sheets", "filled", "[Z", true)
  | 1 => ("ByHand$Sheets", "sorts", "[I", true)
  | 2 => ("ByHand$Sheets", "lengths", "[I", true)
  | _ => ("ByHand$Sheets", "cells", "[[I", true)
def tyX3 : Nat → FieldType := fun k => match k with
  | 0 => .array .boolean
  | 1 => .array .int
  | 2 => .array .int
  | _ => .array (.array .int)
abbrev wsX30 : List Cond := u_ws RX3 TX3 4
theorem nmX3 : ∀ a, a < 4 → ∀ b, b < 4 → a ≠ b → (TX3 a).2.1 ≠ (TX3 b).2.1 := by decide +kernel
theorem tyX3_ok : ∀ k, k < 4 → parseFieldDescriptor (TX3 k).2.2.1 = some (tyX3 k) := by decide +kernel
abbrev cX3_init : ByteArray := prog_5_method_1_code
def yX3_init : MethodName := ⟨RX3, "<init>", "()V"⟩
abbrev cX3_has : ByteArray := prog_5_method_2_code
def yX3_has : MethodName := ⟨RX3, "has", "(I)Z"⟩
abbrev cX3_hasRow : ByteArray := prog_5_method_3_code
def yX3_hasRow : MethodName := ⟨RX3, "hasRow", "(I)Z"⟩
abbrev cX3_sortOf : ByteArray := prog_5_method_4_code
def yX3_sortOf : MethodName := ⟨RX3, "sortOf", "(I)I"⟩
abbrev cX3_hasCells : ByteArray := prog_5_method_5_code
def yX3_hasCells : MethodName := ⟨RX3, "hasCells", "(III)Z"⟩
abbrev cX3_faultOfTaking : ByteArray := prog_5_method_6_code
def yX3_faultOfTaking : MethodName := ⟨RX3, "faultOfTaking", "(IIII)I"⟩
abbrev cX3_renew : ByteArray := prog_5_method_7_code
def yX3_renew : MethodName := ⟨RX3, "renew", "(III)V"⟩
abbrev cX3_empty : ByteArray := prog_5_method_8_code
def yX3_empty : MethodName := ⟨RX3, "empty", "(I)Z"⟩
abbrev cX3_cellOf : ByteArray := prog_5_method_9_code
def yX3_cellOf : MethodName := ⟨RX3, "cellOf", "(II)I"⟩
abbrev cX3_setCell : ByteArray := prog_5_method_10_code
def yX3_setCell : MethodName := ⟨RX3, "setCell", "(III)V"⟩
abbrev cX3_cut : ByteArray := prog_5_method_11_code
def yX3_cut : MethodName := ⟨RX3, "cut", "(II)I"⟩
abbrev cX3_copyCells : ByteArray := prog_5_method_12_code
def yX3_copyCells : MethodName := ⟨RX3, "copyCells", "(IIIII)V"⟩
def RX4 : String := "ByHand$Telling"
def TX4 : u_T := fun k => match k with
  | 0 => ("ByHand$Telling", "count", "I", false)
  | 1 => ("ByHand$Telling", "lighter", "[I", true)
  | 2 => ("ByHand$Telling", "alikes", "[I", true)
  | _ => ("ByHand$Telling", "orders", "[I", true)
def tyX4 : Nat → FieldType := fun k => match k with
  | 0 => .int
  | 1 => .array .int
  | 2 => .array .int
  | _ => .array .int
abbrev wsX40 : List Cond := u_ws RX4 TX4 4
theorem nmX4 : ∀ a, a < 4 → ∀ b, b < 4 → a ≠ b → (TX4 a).2.1 ≠ (TX4 b).2.1 := by decide +kernel
theorem tyX4_ok : ∀ k, k < 4 → parseFieldDescriptor (TX4 k).2.2.1 = some (tyX4 k) := by decide +kernel
abbrev cX4_init : ByteArray := prog_6_method_1_code
def yX4_init : MethodName := ⟨RX4, "<init>", "()V"⟩
abbrev cX4_lay : ByteArray := prog_6_method_2_code
def yX4_lay : MethodName := ⟨RX4, "lay", "(LByHand$Hands;ILByHand$Things;)V"⟩
abbrev cX4_has : ByteArray := prog_6_method_3_code
def yX4_has : MethodName := ⟨RX4, "has", "(I)Z"⟩
abbrev cX4_alikeTo : ByteArray := prog_6_method_4_code
def yX4_alikeTo : MethodName := ⟨RX4, "alikeTo", "(I)I"⟩
abbrev cX4_lighterThan : ByteArray := prog_6_method_5_code
def yX4_lighterThan : MethodName := ⟨RX4, "lighterThan", "(I)I"⟩
abbrev cX4_othersAlikeTo : ByteArray := prog_6_method_6_code
def yX4_othersAlikeTo : MethodName := ⟨RX4, "othersAlikeTo", "(I)I"⟩
abbrev cX4_allThings : ByteArray := prog_6_method_7_code
def yX4_allThings : MethodName := ⟨RX4, "allThings", "()I"⟩
abbrev cX4_isFinerThan : ByteArray := prog_6_method_8_code
def yX4_isFinerThan : MethodName := ⟨RX4, "isFinerThan", "(LByHand$Telling;)Z"⟩
abbrev cX4_within : ByteArray := prog_6_method_9_code
def yX4_within : MethodName := ⟨RX4, "within", "(II)I"⟩
abbrev cX4_alikeToAny : ByteArray := prog_6_method_10_code
def yX4_alikeToAny : MethodName := ⟨RX4, "alikeToAny", "(I)I"⟩
abbrev cX4_fewestSwaps : ByteArray := prog_6_method_11_code
def yX4_fewestSwaps : MethodName := ⟨RX4, "fewestSwaps", "(II)I"⟩
abbrev cX4_behindSwaps : ByteArray := prog_6_method_12_code
def yX4_behindSwaps : MethodName := ⟨RX4, "behindSwaps", "(III)I"⟩
abbrev cX4_leastIn : ByteArray := prog_6_method_13_code
def yX4_leastIn : MethodName := ⟨RX4, "leastIn", "(I)I"⟩
abbrev cX4_countOrders : ByteArray := prog_6_method_14_code
def yX4_countOrders : MethodName := ⟨RX4, "countOrders", "()I"⟩
abbrev cX4_placeInFirstOrder : ByteArray := prog_6_method_15_code
def yX4_placeInFirstOrder : MethodName := ⟨RX4, "placeInFirstOrder", "(I)I"⟩
abbrev cX4_fittingBehind : ByteArray := prog_6_method_16_code
def yX4_fittingBehind : MethodName := ⟨RX4, "fittingBehind", "(I)I"⟩
abbrev cX4_longestChain : ByteArray := prog_6_method_17_code
def yX4_longestChain : MethodName := ⟨RX4, "longestChain", "()I"⟩
abbrev cX4_heavierThanAny : ByteArray := prog_6_method_18_code
def yX4_heavierThanAny : MethodName := ⟨RX4, "heavierThanAny", "(I)I"⟩
abbrev cX4_greatestCrowd : ByteArray := prog_6_method_19_code
def yX4_greatestCrowd : MethodName := ⟨RX4, "greatestCrowd", "()I"⟩
abbrev cX4_areAllAlike : ByteArray := prog_6_method_20_code
def yX4_areAllAlike : MethodName := ⟨RX4, "areAllAlike", "(I)Z"⟩
abbrev cX4_countTold : ByteArray := prog_6_method_21_code
def yX4_countTold : MethodName := ⟨RX4, "countTold", "()I"⟩
def RX5 : String := "ByHand$Text"
def TX5 : u_T := fun k => match k with
  | _ => ("", "", "", false)
def tyX5 : Nat → FieldType := fun k => match k with
  | _ => .int
abbrev wsX50 : List Cond := u_ws RX5 TX5 0
theorem nmX5 : ∀ a, a < 0 → ∀ b, b < 0 → a ≠ b → (TX5 a).2.1 ≠ (TX5 b).2.1 := by decide +kernel
theorem tyX5_ok : ∀ k, k < 0 → parseFieldDescriptor (TX5 k).2.2.1 = some (tyX5 k) := by decide +kernel
abbrev cX5_firstFault : ByteArray := prog_7_method_2_code
def yX5_firstFault : MethodName := ⟨RX5, "firstFault", "(LByHand$Sheets;III)I"⟩
abbrev cX5_goesOn : ByteArray := prog_7_method_3_code
def yX5_goesOn : MethodName := ⟨RX5, "goesOn", "(LByHand$Sheets;III)Z"⟩
abbrev cX5_read : ByteArray := prog_7_method_4_code
def yX5_read : MethodName := ⟨RX5, "read", "(LByHand$Sheets;IIILByHand$Things;)V"⟩
abbrev cX5_number : ByteArray := prog_7_method_5_code
def yX5_number : MethodName := ⟨RX5, "number", "(LByHand$Sheets;II)I"⟩
def RX6 : String := "ByHand$Things"
def TX6 : u_T := fun k => match k with
  | 0 => ("ByHand$Things", "count", "I", false)
  | _ => ("ByHand$Things", "weights", "[I", true)
def tyX6 : Nat → FieldType := fun k => match k with
  | 0 => .int
  | _ => .array .int
abbrev wsX60 : List Cond := u_ws RX6 TX6 2
theorem nmX6 : ∀ a, a < 2 → ∀ b, b < 2 → a ≠ b → (TX6 a).2.1 ≠ (TX6 b).2.1 := by decide +kernel
theorem tyX6_ok : ∀ k, k < 2 → parseFieldDescriptor (TX6 k).2.2.1 = some (tyX6 k) := by decide +kernel
abbrev cX6_init : ByteArray := prog_8_method_1_code
def yX6_init : MethodName := ⟨RX6, "<init>", "()V"⟩
abbrev cX6_count : ByteArray := prog_8_method_2_code
def yX6_count : MethodName := ⟨RX6, "count", "()I"⟩
abbrev cX6_has : ByteArray := prog_8_method_3_code
def yX6_has : MethodName := ⟨RX6, "has", "(I)Z"⟩
abbrev cX6_weightOf : ByteArray := prog_8_method_4_code
def yX6_weightOf : MethodName := ⟨RX6, "weightOf", "(I)I"⟩
abbrev cX6_setWeight : ByteArray := prog_8_method_5_code
def yX6_setWeight : MethodName := ⟨RX6, "setWeight", "(II)V"⟩
abbrev cX6_clear : ByteArray := prog_8_method_6_code
def yX6_clear : MethodName := ⟨RX6, "clear", "()V"⟩
abbrev cX6_add : ByteArray := prog_8_method_7_code
def yX6_add : MethodName := ⟨RX6, "add", "(I)V"⟩
abbrev cX6_weightTogether : ByteArray := prog_8_method_8_code
def yX6_weightTogether : MethodName := ⟨RX6, "weightTogether", "(I)I"⟩
abbrev cX6_greatestOf : ByteArray := prog_8_method_9_code
def yX6_greatestOf : MethodName := ⟨RX6, "greatestOf", "(I)I"⟩
def RX7 : String := "ByHand"
def TX7 : u_T := fun k => match k with
  | 0 => ("ByHand", "things", "LByHand$Things;", true)
  | 1 => ("ByHand", "hands", "LByHand$Hands;", true)
  | 2 => ("ByHand", "sayings", "LByHand$Sayings;", true)
  | 3 => ("ByHand", "sheets", "LByHand$Sheets;", true)
  | 4 => ("ByHand", "telling", "LByHand$Telling;", true)
  | 5 => ("ByHand", "otherTelling", "LByHand$Telling;", true)
  | 6 => ("ByHand", "handRow", "LByHand$HandRow;", true)
  | 7 => ("ByHand", "traceLeft", "I", false)
  | _ => ("ByHand", "latestFault", "I", false)
def tyX7 : Nat → FieldType := fun k => match k with
  | 0 => .object "ByHand$Things"
  | 1 => .object "ByHand$Hands"
  | 2 => .object "ByHand$Sayings"
  | 3 => .object "ByHand$Sheets"
  | 4 => .object "ByHand$Telling"
  | 5 => .object "ByHand$Telling"
  | 6 => .object "ByHand$HandRow"
  | 7 => .int
  | _ => .int
abbrev wsX70 : List Cond := u_ws RX7 TX7 9
theorem nmX7 : ∀ a, a < 9 → ∀ b, b < 9 → a ≠ b → (TX7 a).2.1 ≠ (TX7 b).2.1 := by decide +kernel
theorem tyX7_ok : ∀ k, k < 9 → parseFieldDescriptor (TX7 k).2.2.1 = some (tyX7 k) := by decide +kernel
abbrev cX7_init : ByteArray := prog_1_method_1_code
def yX7_init : MethodName := ⟨RX7, "<init>", "()V"⟩
abbrev cX7_market : ByteArray := prog_1_method_2_code
def yX7_market : MethodName := ⟨RX7, "market", "(IIII)I"⟩
abbrev cX7_weight : ByteArray := prog_1_method_3_code
def yX7_weight : MethodName := ⟨RX7, "weight", "(I)I"⟩
abbrev cX7_weigh : ByteArray := prog_1_method_4_code
def yX7_weigh : MethodName := ⟨RX7, "weigh", "(II)I"⟩
abbrev cX7_hand : ByteArray := prog_1_method_5_code
def yX7_hand : MethodName := ⟨RX7, "hand", "(II)I"⟩
abbrev cX7_ofHand : ByteArray := prog_1_method_6_code
def yX7_ofHand : MethodName := ⟨RX7, "ofHand", "(II)I"⟩
abbrev cX7_tells : ByteArray := prog_1_method_7_code
def yX7_tells : MethodName := ⟨RX7, "tells", "(III)I"⟩
abbrev cX7_alike : ByteArray := prog_1_method_8_code
def yX7_alike : MethodName := ⟨RX7, "alike", "(II)I"⟩
abbrev cX7_finer : ByteArray := prog_1_method_9_code
def yX7_finer : MethodName := ⟨RX7, "finer", "(II)I"⟩
abbrev cX7_way : ByteArray := prog_1_method_10_code
def yX7_way : MethodName := ⟨RX7, "way", "(IIII)I"⟩
abbrev cX7_noon : ByteArray := prog_1_method_11_code
def yX7_noon : MethodName := ⟨RX7, "noon", "(III)I"⟩
abbrev cX7_gain : ByteArray := prog_1_method_12_code
def yX7_gain : MethodName := ⟨RX7, "gain", "(IIIII)I"⟩
abbrev cX7_swappedUp : ByteArray := prog_1_method_13_code
def yX7_swappedUp : MethodName := ⟨RX7, "swappedUp", "(I)I"⟩
abbrev cX7_saying : ByteArray := prog_1_method_14_code
def yX7_saying : MethodName := ⟨RX7, "saying", "(IIII)I"⟩
abbrev cX7_back : ByteArray := prog_1_method_15_code
def yX7_back : MethodName := ⟨RX7, "back", "(I)I"⟩
abbrev cX7_untrue : ByteArray := prog_1_method_16_code
def yX7_untrue : MethodName := ⟨RX7, "untrue", "()I"⟩
abbrev cX7_leaves : ByteArray := prog_1_method_17_code
def yX7_leaves : MethodName := ⟨RX7, "leaves", "(II)I"⟩
abbrev cX7_breaks : ByteArray := prog_1_method_18_code
def yX7_breaks : MethodName := ⟨RX7, "breaks", "(II)I"⟩
abbrev cX7_falseByWeight : ByteArray := prog_1_method_19_code
def yX7_falseByWeight : MethodName := ⟨RX7, "falseByWeight", "(II)I"⟩
abbrev cX7_rows : ByteArray := prog_1_method_20_code
def yX7_rows : MethodName := ⟨RX7, "rows", "(II)I"⟩
abbrev cX7_longest : ByteArray := prog_1_method_21_code
def yX7_longest : MethodName := ⟨RX7, "longest", "(I)I"⟩
abbrev cX7_crowd : ByteArray := prog_1_method_22_code
def yX7_crowd : MethodName := ⟨RX7, "crowd", "(I)I"⟩
abbrev cX7_measure : ByteArray := prog_1_method_23_code
def yX7_measure : MethodName := ⟨RX7, "measure", "(II)I"⟩
abbrev cX7_copies : ByteArray := prog_1_method_24_code
def yX7_copies : MethodName := ⟨RX7, "copies", "(IIIIII)I"⟩
abbrev cX7_bestRow : ByteArray := prog_1_method_25_code
def yX7_bestRow : MethodName := ⟨RX7, "bestRow", "(IIIIII)I"⟩
abbrev cX7_takeHandRow : ByteArray := prog_1_method_26_code
def yX7_takeHandRow : MethodName := ⟨RX7, "takeHandRow", "(IIII)I"⟩
abbrev cX7_even : ByteArray := prog_1_method_27_code
def yX7_even : MethodName := ⟨RX7, "even", "(II)I"⟩
abbrev cX7_odds : ByteArray := prog_1_method_28_code
def yX7_odds : MethodName := ⟨RX7, "odds", "(II)J"⟩
abbrev cX7_commonDivisor : ByteArray := prog_1_method_29_code
def yX7_commonDivisor : MethodName := ⟨RX7, "commonDivisor", "(II)I"⟩
abbrev cX7_sheet : ByteArray := prog_1_method_30_code
def yX7_sheet : MethodName := ⟨RX7, "sheet", "(III)I"⟩
abbrev cX7_lose : ByteArray := prog_1_method_31_code
def yX7_lose : MethodName := ⟨RX7, "lose", "(I)I"⟩
abbrev cX7_put : ByteArray := prog_1_method_32_code
def yX7_put : MethodName := ⟨RX7, "put", "(III)I"⟩
abbrev cX7_cell : ByteArray := prog_1_method_33_code
def yX7_cell : MethodName := ⟨RX7, "cell", "(III)J"⟩
abbrev cX7_copy : ByteArray := prog_1_method_34_code
def yX7_copy : MethodName := ⟨RX7, "copy", "(IIIII)I"⟩
abbrev cX7_tell : ByteArray := prog_1_method_35_code
def yX7_tell : MethodName := ⟨RX7, "tell", "(I)I"⟩
abbrev cX7_shake : ByteArray := prog_1_method_36_code
def yX7_shake : MethodName := ⟨RX7, "shake", "(I)I"⟩
abbrev cX7_as : ByteArray := prog_1_method_37_code
def yX7_as : MethodName := ⟨RX7, "as", "(II)I"⟩
abbrev cX7_trace : ByteArray := prog_1_method_38_code
def yX7_trace : MethodName := ⟨RX7, "trace", "()I"⟩
abbrev cX7_fault : ByteArray := prog_1_method_39_code
def yX7_fault : MethodName := ⟨RX7, "fault", "()I"⟩
abbrev cX7_many : ByteArray := prog_1_method_40_code
def yX7_many : MethodName := ⟨RX7, "many", "(I)I"⟩
abbrev cX7_handBody : ByteArray := prog_1_method_41_code
def yX7_handBody : MethodName := ⟨RX7, "handBody", "(I)I"⟩
abbrev cX7_steadyBody : ByteArray := prog_1_method_42_code
def yX7_steadyBody : MethodName := ⟨RX7, "steadyBody", "(I)I"⟩
abbrev cX7_smithBody : ByteArray := prog_1_method_43_code
def yX7_smithBody : MethodName := ⟨RX7, "smithBody", "(I)I"⟩
abbrev cX7_lentBody : ByteArray := prog_1_method_44_code
def yX7_lentBody : MethodName := ⟨RX7, "lentBody", "(I)I"⟩
abbrev cX7_smithsOwnBody : ByteArray := prog_1_method_45_code
def yX7_smithsOwnBody : MethodName := ⟨RX7, "smithsOwnBody", "()I"⟩
abbrev cX7_leaveTrace : ByteArray := prog_1_method_46_code
def yX7_leaveTrace : MethodName := ⟨RX7, "leaveTrace", "(I)V"⟩
abbrev cX7_faulty : ByteArray := prog_1_method_47_code
def yX7_faulty : MethodName := ⟨RX7, "faulty", "(I)I"⟩
abbrev cX7_isSort : ByteArray := prog_1_method_48_code
def yX7_isSort : MethodName := ⟨RX7, "isSort", "(I)Z"⟩
abbrev cX7_isKind : ByteArray := prog_1_method_49_code
def yX7_isKind : MethodName := ⟨RX7, "isKind", "(I)Z"⟩
abbrev cX7_isFirstOrSecond : ByteArray := prog_1_method_50_code
def yX7_isFirstOrSecond : MethodName := ⟨RX7, "isFirstOrSecond", "(I)Z"⟩
abbrev cX7_isIn : ByteArray := prog_1_method_51_code
def yX7_isIn : MethodName := ⟨RX7, "isIn", "(II)Z"⟩
def RX8 : String := "ByHandModel"
def TX8 : u_T := fun k => match k with
  | 0 => ("ByHandModel", "fault", "I", false)
  | 1 => ("ByHandModel", "trace", "I", false)
  | 2 => ("ByHandModel", "sorts", "[I", true)
  | 3 => ("ByHandModel", "sheetLong", "[I", true)
  | 4 => ("ByHandModel", "cells", "[I", true)
  | 5 => ("ByHandModel", "things", "I", false)
  | 6 => ("ByHandModel", "weight", "[I", true)
  | 7 => ("ByHandModel", "at", "I", false)
  | 8 => ("ByHandModel", "readThings", "I", false)
  | 9 => ("ByHandModel", "readWeight", "[I", true)
  | 10 => ("ByHandModel", "hands", "I", false)
  | 11 => ("ByHandModel", "kind", "[I", true)
  | 12 => ("ByHandModel", "part", "[I", true)
  | 13 => ("ByHandModel", "far", "[I", true)
  | 14 => ("ByHandModel", "sayings", "I", false)
  | 15 => ("ByHandModel", "saidBy", "[I", true)
  | 16 => ("ByHandModel", "saidFirst", "[I", true)
  | 17 => ("ByHandModel", "saidOther", "[I", true)
  | 18 => ("ByHandModel", "saidIs", "[I", true)
  | 19 => ("ByHandModel", "ways", "[I", true)
  | 20 => ("ByHandModel", "chain", "[I", true)
  | 21 => ("ByHandModel", "row", "[I", true)
  | _ => ("ByHandModel", "bestIs", "[I", true)
def tyX8 : Nat → FieldType := fun k => match k with
  | 0 => .int
  | 1 => .int
  | 2 => .array .int
  | 3 => .array .int
  | 4 => .array .int
  | 5 => .int
  | 6 => .array .int
  | 7 => .int
  | 8 => .int
  | 9 => .array .int
  | 10 => .int
  | 11 => .array .int
  | 12 => .array .int
  | 13 => .array .int
  | 14 => .int
  | 15 => .array .int
  | 16 => .array .int
  | 17 => .array .int
  | 18 => .array .int
  | 19 => .array .int
  | 20 => .array .int
  | 21 => .array .int
  | _ => .array .int
abbrev wsX80 : List Cond := u_ws RX8 TX8 23
theorem nmX8 : ∀ a, a < 23 → ∀ b, b < 23 → a ≠ b → (TX8 a).2.1 ≠ (TX8 b).2.1 := by decide +kernel
theorem tyX8_ok : ∀ k, k < 23 → parseFieldDescriptor (TX8 k).2.2.1 = some (tyX8 k) := by decide +kernel
abbrev cX8_init : ByteArray := prog_10_method_1_code
def yX8_init : MethodName := ⟨RX8, "<init>", "()V"⟩
abbrev cX8_fails : ByteArray := prog_10_method_3_code
def yX8_fails : MethodName := ⟨RX8, "fails", "(I)I"⟩
abbrev cX8_lost : ByteArray := prog_10_method_4_code
def yX8_lost : MethodName := ⟨RX8, "lost", "(I)J"⟩
abbrev cX8_within : ByteArray := prog_10_method_5_code
def yX8_within : MethodName := ⟨RX8, "within", "(III)Z"⟩
abbrev cX8_share : ByteArray := prog_10_method_6_code
def yX8_share : MethodName := ⟨RX8, "share", "(JJI)J"⟩
abbrev cX8_bits : ByteArray := prog_10_method_7_code
def yX8_bits : MethodName := ⟨RX8, "bits", "(I)I"⟩
abbrev cX8_isSheet : ByteArray := prog_10_method_8_code
def yX8_isSheet : MethodName := ⟨RX8, "isSheet", "(I)Z"⟩
abbrev cX8_isSort : ByteArray := prog_10_method_9_code
def yX8_isSort : MethodName := ⟨RX8, "isSort", "(I)Z"⟩
abbrev cX8_against : ByteArray := prog_10_method_10_code
def yX8_against : MethodName := ⟨RX8, "against", "(IIII)I"⟩
abbrev cX8_isThing : ByteArray := prog_10_method_11_code
def yX8_isThing : MethodName := ⟨RX8, "isThing", "(I)Z"⟩
abbrev cX8_market : ByteArray := prog_10_method_12_code
def yX8_market : MethodName := ⟨RX8, "market", "(IIII)I"⟩
abbrev cX8_readMarket : ByteArray := prog_10_method_13_code
def yX8_readMarket : MethodName := ⟨RX8, "readMarket", "(I)Z"⟩
abbrev cX8_weight : ByteArray := prog_10_method_14_code
def yX8_weight : MethodName := ⟨RX8, "weight", "(I)I"⟩
abbrev cX8_isWeight : ByteArray := prog_10_method_15_code
def yX8_isWeight : MethodName := ⟨RX8, "isWeight", "(I)Z"⟩
abbrev cX8_weigh : ByteArray := prog_10_method_16_code
def yX8_weigh : MethodName := ⟨RX8, "weigh", "(II)I"⟩
abbrev cX8_isHand : ByteArray := prog_10_method_17_code
def yX8_isHand : MethodName := ⟨RX8, "isHand", "(I)Z"⟩
abbrev cX8_hand : ByteArray := prog_10_method_18_code
def yX8_hand : MethodName := ⟨RX8, "hand", "(II)I"⟩
abbrev cX8_ofHand : ByteArray := prog_10_method_19_code
def yX8_ofHand : MethodName := ⟨RX8, "ofHand", "(II)I"⟩
abbrev cX8_times : ByteArray := prog_10_method_20_code
def yX8_times : MethodName := ⟨RX8, "times", "(I)I"⟩
abbrev cX8_isTold : ByteArray := prog_10_method_21_code
def yX8_isTold : MethodName := ⟨RX8, "isTold", "(III)Z"⟩
abbrev cX8_tellsThem : ByteArray := prog_10_method_22_code
def yX8_tellsThem : MethodName := ⟨RX8, "tellsThem", "(III)Z"⟩
abbrev cX8_areAlike : ByteArray := prog_10_method_23_code
def yX8_areAlike : MethodName := ⟨RX8, "areAlike", "(III)Z"⟩
abbrev cX8_tells : ByteArray := prog_10_method_24_code
def yX8_tells : MethodName := ⟨RX8, "tells", "(III)I"⟩
abbrev cX8_alikeTo : ByteArray := prog_10_method_25_code
def yX8_alikeTo : MethodName := ⟨RX8, "alikeTo", "(II)I"⟩
abbrev cX8_alike : ByteArray := prog_10_method_26_code
def yX8_alike : MethodName := ⟨RX8, "alike", "(II)I"⟩
abbrev cX8_finer : ByteArray := prog_10_method_27_code
def yX8_finer : MethodName := ⟨RX8, "finer", "(II)I"⟩
abbrev cX8_findFar : ByteArray := prog_10_method_28_code
def yX8_findFar : MethodName := ⟨RX8, "findFar", "(II)V"⟩
abbrev cX8_way : ByteArray := prog_10_method_29_code
def yX8_way : MethodName := ⟨RX8, "way", "(IIII)I"⟩
abbrev cX8_nextOf : ByteArray := prog_10_method_30_code
def yX8_nextOf : MethodName := ⟨RX8, "nextOf", "(II)I"⟩
abbrev cX8_noon : ByteArray := prog_10_method_31_code
def yX8_noon : MethodName := ⟨RX8, "noon", "(III)I"⟩
abbrev cX8_gain : ByteArray := prog_10_method_32_code
def yX8_gain : MethodName := ⟨RX8, "gain", "(IIIII)I"⟩
abbrev cX8_isGot : ByteArray := prog_10_method_33_code
def yX8_isGot : MethodName := ⟨RX8, "isGot", "(IIII)Z"⟩
abbrev cX8_saying : ByteArray := prog_10_method_34_code
def yX8_saying : MethodName := ⟨RX8, "saying", "(IIII)I"⟩
abbrev cX8_back : ByteArray := prog_10_method_35_code
def yX8_back : MethodName := ⟨RX8, "back", "(I)I"⟩
abbrev cX8_isSo : ByteArray := prog_10_method_36_code
def yX8_isSo : MethodName := ⟨RX8, "isSo", "(I)Z"⟩
abbrev cX8_untrue : ByteArray := prog_10_method_37_code
def yX8_untrue : MethodName := ⟨RX8, "untrue", "()I"⟩
abbrev cX8_falseOf : ByteArray := prog_10_method_38_code
def yX8_falseOf : MethodName := ⟨RX8, "falseOf", "(I)I"⟩
abbrev cX8_leaves : ByteArray := prog_10_method_39_code
def yX8_leaves : MethodName := ⟨RX8, "leaves", "(II)I"⟩
abbrev cX8_breaks : ByteArray := prog_10_method_40_code
def yX8_breaks : MethodName := ⟨RX8, "breaks", "(II)I"⟩
abbrev cX8_mayStand : ByteArray := prog_10_method_41_code
def yX8_mayStand : MethodName := ⟨RX8, "mayStand", "(III)Z"⟩
abbrev cX8_rows : ByteArray := prog_10_method_42_code
def yX8_rows : MethodName := ⟨RX8, "rows", "(II)I"⟩
abbrev cX8_inFirstRow : ByteArray := prog_10_method_43_code
def yX8_inFirstRow : MethodName := ⟨RX8, "inFirstRow", "(II)I"⟩
abbrev cX8_longest : ByteArray := prog_10_method_44_code
def yX8_longest : MethodName := ⟨RX8, "longest", "(I)I"⟩
abbrev cX8_isCrowd : ByteArray := prog_10_method_45_code
def yX8_isCrowd : MethodName := ⟨RX8, "isCrowd", "(II)Z"⟩
abbrev cX8_crowd : ByteArray := prog_10_method_46_code
def yX8_crowd : MethodName := ⟨RX8, "crowd", "(I)I"⟩
abbrev cX8_measure : ByteArray := prog_10_method_47_code
def yX8_measure : MethodName := ⟨RX8, "measure", "(II)I"⟩
abbrev cX8_greatest : ByteArray := prog_10_method_48_code
def yX8_greatest : MethodName := ⟨RX8, "greatest", "(II)I"⟩
abbrev cX8_least : ByteArray := prog_10_method_49_code
def yX8_least : MethodName := ⟨RX8, "least", "(II)I"⟩
abbrev cX8_copied : ByteArray := prog_10_method_50_code
def yX8_copied : MethodName := ⟨RX8, "copied", "(III)I"⟩
abbrev cX8_layRow : ByteArray := prog_10_method_51_code
def yX8_layRow : MethodName := ⟨RX8, "layRow", "(III)I"⟩
abbrev cX8_copies : ByteArray := prog_10_method_52_code
def yX8_copies : MethodName := ⟨RX8, "copies", "(IIIIII)I"⟩
abbrev cX8_exchange : ByteArray := prog_10_method_53_code
def yX8_exchange : MethodName := ⟨RX8, "exchange", "(II)V"⟩
abbrev cX8_nextRow : ByteArray := prog_10_method_54_code
def yX8_nextRow : MethodName := ⟨RX8, "nextRow", "(I)Z"⟩
abbrev cX8_findBestRow : ByteArray := prog_10_method_55_code
def yX8_findBestRow : MethodName := ⟨RX8, "findBestRow", "(II)I"⟩
abbrev cX8_bestRow : ByteArray := prog_10_method_56_code
def yX8_bestRow : MethodName := ⟨RX8, "bestRow", "(IIIIII)I"⟩
abbrev cX8_sumOf : ByteArray := prog_10_method_57_code
def yX8_sumOf : MethodName := ⟨RX8, "sumOf", "(I)I"⟩
abbrev cX8_areEven : ByteArray := prog_10_method_58_code
def yX8_areEven : MethodName := ⟨RX8, "areEven", "(III)Z"⟩
abbrev cX8_even : ByteArray := prog_10_method_59_code
def yX8_even : MethodName := ⟨RX8, "even", "(II)I"⟩
abbrev cX8_odds : ByteArray := prog_10_method_60_code
def yX8_odds : MethodName := ⟨RX8, "odds", "(II)J"⟩
abbrev cX8_sheet : ByteArray := prog_10_method_61_code
def yX8_sheet : MethodName := ⟨RX8, "sheet", "(III)I"⟩
abbrev cX8_lose : ByteArray := prog_10_method_62_code
def yX8_lose : MethodName := ⟨RX8, "lose", "(I)I"⟩
abbrev cX8_put : ByteArray := prog_10_method_63_code
def yX8_put : MethodName := ⟨RX8, "put", "(III)I"⟩
abbrev cX8_cell : ByteArray := prog_10_method_64_code
def yX8_cell : MethodName := ⟨RX8, "cell", "(III)J"⟩
abbrev cX8_copy : ByteArray := prog_10_method_65_code
def yX8_copy : MethodName := ⟨RX8, "copy", "(IIIII)I"⟩
abbrev cX8_begins : ByteArray := prog_10_method_66_code
def yX8_begins : MethodName := ⟨RX8, "begins", "(I)V"⟩
abbrev cX8_tell : ByteArray := prog_10_method_67_code
def yX8_tell : MethodName := ⟨RX8, "tell", "(I)I"⟩
abbrev cX8_shake : ByteArray := prog_10_method_68_code
def yX8_shake : MethodName := ⟨RX8, "shake", "(I)I"⟩
abbrev cX8_as : ByteArray := prog_10_method_69_code
def yX8_as : MethodName := ⟨RX8, "as", "(II)I"⟩
abbrev cX8_trace : ByteArray := prog_10_method_70_code
def yX8_trace : MethodName := ⟨RX8, "trace", "()I"⟩
abbrev cX8_fault : ByteArray := prog_10_method_71_code
def yX8_fault : MethodName := ⟨RX8, "fault", "()I"⟩
abbrev cX8_many : ByteArray := prog_10_method_72_code
def yX8_many : MethodName := ⟨RX8, "many", "(I)I"⟩
def RJ6 : String := "java/lang/Integer"
def TJ6 : u_T := fun k => match k with
  | _ => ("", "", "", false)
def tyJ6 : Nat → FieldType := fun k => match k with
  | _ => .int
abbrev wsJ60 : List Cond := u_ws RJ6 TJ6 0
theorem nmJ6 : ∀ a, a < 0 → ∀ b, b < 0 → a ≠ b → (TJ6 a).2.1 ≠ (TJ6 b).2.1 := by decide +kernel
theorem tyJ6_ok : ∀ k, k < 0 → parseFieldDescriptor (TJ6 k).2.2.1 = some (tyJ6 k) := by decide +kernel
abbrev cJ6_bitCount_0f7a4 : ByteArray := prog_11_method_49_code
def yJ6_bitCount_0f7a4 : MethodName := ⟨RJ6, "bitCount", "(I)I"⟩
def RJ9 : String := "java/lang/Math"
def TJ9 : u_T := fun k => match k with
  | _ => ("", "", "", false)
def tyJ9 : Nat → FieldType := fun k => match k with
  | _ => .int
abbrev wsJ90 : List Cond := u_ws RJ9 TJ9 0
theorem nmJ9 : ∀ a, a < 0 → ∀ b, b < 0 → a ≠ b → (TJ9 a).2.1 ≠ (TJ9 b).2.1 := by decide +kernel
theorem tyJ9_ok : ∀ k, k < 0 → parseFieldDescriptor (TJ9 k).2.2.1 = some (tyJ9 k) := by decide +kernel
abbrev cJ9_max_7cf53 : ByteArray := prog_12_method_65_code
def yJ9_max_7cf53 : MethodName := ⟨RJ9, "max", "(II)I"⟩
abbrev cJ9_min_7cf53 : ByteArray := prog_12_method_69_code
def yJ9_min_7cf53 : MethodName := ⟨RJ9, "min", "(II)I"⟩
def RJ10 : String := "java/lang/System"
def TJ10 : u_T := fun k => match k with
  | _ => ("", "", "", false)
def tyJ10 : Nat → FieldType := fun k => match k with
  | _ => .int
abbrev wsJ100 : List Cond := u_ws RJ10 TJ10 0
theorem nmJ10 : ∀ a, a < 0 → ∀ b, b < 0 → a ≠ b → (TJ10 a).2.1 ≠ (TJ10 b).2.1 := by decide +kernel
theorem tyJ10_ok : ∀ k, k < 0 → parseFieldDescriptor (TJ10 k).2.2.1 = some (tyJ10 k) := by decide +kernel
def RL : String := "ByHandLaw"
abbrev cL_law : ByteArray := code
def yL_law : MethodName := ⟨RL, "law", "([I)Z"⟩
def wsL_law_r1 : List Cond := [Cond.classLink RL 7 RX7, Cond.instantiable RX7 9, Cond.initialized RX7, Cond.classLink RL 10 RX8, Cond.instantiable RX8 23, Cond.initialized RX8, Cond.methodLink RL 9 yX7_init, Cond.instanceMethod yX7_init, Cond.code yX7_init cX7_init 1 none, Cond.methodLink RX7 5 objectInit, Cond.instanceMethod objectInit, Cond.code objectInit ⟨#[0xb1]⟩ 1 none, Cond.classLink RX7 11 RX6, Cond.instantiable RX6 2, Cond.initialized RX6, Cond.fieldLink RX7 14 "ByHand" "things" "LByHand$Things;", Cond.classLink RX7 18 RX1, Cond.instantiable RX1 3, Cond.initialized RX1, Cond.fieldLink RX7 21 "ByHand" "hands" "LByHand$Hands;", Cond.classLink RX7 25 RX2, Cond.instantiable RX2 5, Cond.initialized RX2, Cond.fieldLink RX7 28 "ByHand" "sayings" "LByHand$Sayings;"]
def wsL_law_r2 : List Cond := [Cond.classLink RX7 32 RX3, Cond.instantiable RX3 4, Cond.initialized RX3, Cond.fieldLink RX7 35 "ByHand" "sheets" "LByHand$Sheets;", Cond.classLink RX7 39 RX4, Cond.instantiable RX4 4, Cond.initialized RX4, Cond.fieldLink RX7 42 "ByHand" "telling" "LByHand$Telling;", Cond.fieldLink RX7 46 "ByHand" "otherTelling" "LByHand$Telling;", Cond.classLink RX7 49 RX0, Cond.instantiable RX0 3, Cond.initialized RX0, Cond.fieldLink RX7 52 "ByHand" "handRow" "LByHand$HandRow;", Cond.fieldLink RX7 56 "ByHand" "traceLeft" "I", Cond.fieldLink RX7 60 "ByHand" "latestFault" "I", Cond.instanceMethod yX6_init, Cond.code yX6_init cX6_init 1 none, Cond.methodLink RX6 3 objectInit, Cond.fieldLink RX6 9 "ByHand$Things" "count" "I", Cond.arrayClass .int, Cond.fieldLink RX6 15 "ByHand$Things" "weights" "[I", Cond.instanceMethod yX1_init, Cond.code yX1_init cX1_init 1 none, Cond.methodLink RX1 3 objectInit]
def wsL_law_r3 : List Cond := [Cond.fieldLink RX1 9 "ByHand$Hands" "count" "I", Cond.fieldLink RX1 15 "ByHand$Hands" "kinds" "[I", Cond.fieldLink RX1 19 "ByHand$Hands" "parts" "[I", Cond.instanceMethod yX2_init, Cond.code yX2_init cX2_init 1 none, Cond.methodLink RX2 3 objectInit, Cond.fieldLink RX2 9 "ByHand$Sayings" "count" "I", Cond.fieldLink RX2 15 "ByHand$Sayings" "sayers" "[I", Cond.fieldLink RX2 19 "ByHand$Sayings" "firsts" "[I", Cond.fieldLink RX2 22 "ByHand$Sayings" "seconds" "[I", Cond.fieldLink RX2 25 "ByHand$Sayings" "words" "[I", Cond.instanceMethod yX3_init, Cond.code yX3_init cX3_init 1 none, Cond.methodLink RX3 3 objectInit, Cond.arrayClass .boolean, Cond.fieldLink RX3 9 "ByHand$Sheets" "filled" "[Z", Cond.fieldLink RX3 15 "ByHand$Sheets" "sorts" "[I", Cond.fieldLink RX3 19 "ByHand$Sheets" "lengths" "[I", Cond.classLink RX3 22 "[[I", Cond.fieldLink RX3 24 "ByHand$Sheets" "cells" "[[I", Cond.instanceMethod yX4_init, Cond.code yX4_init cX4_init 1 none, Cond.methodLink RX4 3 objectInit, Cond.fieldLink RX4 9 "ByHand$Telling" "count" "I"]
def wsL_law_r4 : List Cond := [Cond.fieldLink RX4 15 "ByHand$Telling" "lighter" "[I", Cond.fieldLink RX4 19 "ByHand$Telling" "alikes" "[I", Cond.fieldLink RX4 22 "ByHand$Telling" "orders" "[I", Cond.instanceMethod yX0_init, Cond.code yX0_init cX0_init 1 none, Cond.methodLink RX0 3 objectInit, Cond.fieldLink RX0 9 "ByHand$HandRow" "count" "I", Cond.fieldLink RX0 15 "ByHand$HandRow" "row" "[I", Cond.fieldLink RX0 19 "ByHand$HandRow" "best" "[I", Cond.methodLink RL 12 yX8_init, Cond.instanceMethod yX8_init, Cond.code yX8_init cX8_init 1 none, Cond.methodLink RX8 1 objectInit, Cond.fieldLink RX8 9 "ByHandModel" "sorts" "[I", Cond.fieldLink RX8 13 "ByHandModel" "sheetLong" "[I", Cond.fieldLink RX8 16 "ByHandModel" "cells" "[I", Cond.fieldLink RX8 19 "ByHandModel" "weight" "[I", Cond.fieldLink RX8 22 "ByHandModel" "readWeight" "[I", Cond.fieldLink RX8 25 "ByHandModel" "kind" "[I", Cond.fieldLink RX8 28 "ByHandModel" "part" "[I", Cond.fieldLink RX8 31 "ByHandModel" "far" "[I", Cond.fieldLink RX8 34 "ByHandModel" "saidBy" "[I", Cond.fieldLink RX8 37 "ByHandModel" "saidFirst" "[I", Cond.fieldLink RX8 40 "ByHandModel" "saidOther" "[I"]
def wsL_law_r5 : List Cond := [Cond.fieldLink RX8 43 "ByHandModel" "saidIs" "[I", Cond.fieldLink RX8 46 "ByHandModel" "ways" "[I", Cond.fieldLink RX8 49 "ByHandModel" "chain" "[I", Cond.fieldLink RX8 52 "ByHandModel" "row" "[I", Cond.fieldLink RX8 55 "ByHandModel" "bestIs" "[I", Cond.methodLink RL 13 yX7_market, Cond.instanceMethod yX7_market, Cond.selects RX7 yX7_market yX7_market, Cond.code yX7_market cX7_market 7 (some .int), Cond.methodLink RX7 63 yX3_has, Cond.instanceMethod yX3_has, Cond.selects RX3 yX3_has yX3_has, Cond.code yX3_has cX3_has 2 (some .boolean), Cond.methodLink RX7 67 yX7_isSort, Cond.static yX7_isSort, Cond.code yX7_isSort cX7_isSort 1 (some .boolean), Cond.methodLink RX7 70 yX3_faultOfTaking, Cond.instanceMethod yX3_faultOfTaking, Cond.selects RX3 yX3_faultOfTaking yX3_faultOfTaking, Cond.code yX3_faultOfTaking cX3_faultOfTaking 5 (some .int), Cond.methodLink RX3 31 yX3_hasRow, Cond.instanceMethod yX3_hasRow, Cond.selects RX3 yX3_hasRow yX3_hasRow, Cond.code yX3_hasRow cX3_hasRow 2 (some .boolean)]
def wsL_law_r6 : List Cond := [Cond.methodLink RX3 27 yX3_has, Cond.methodLink RX3 34 yX3_sortOf, Cond.instanceMethod yX3_sortOf, Cond.selects RX3 yX3_sortOf yX3_sortOf, Cond.code yX3_sortOf cX3_sortOf 2 (some .int), Cond.methodLink RX3 38 yX3_hasCells, Cond.instanceMethod yX3_hasCells, Cond.selects RX3 yX3_hasCells yX3_hasCells, Cond.code yX3_hasCells cX3_hasCells 4 (some .boolean), Cond.methodLink RX7 74 yX7_faulty, Cond.instanceMethod yX7_faulty, Cond.selects RX7 yX7_faulty yX7_faulty, Cond.code yX7_faulty cX7_faulty 2 (some .int), Cond.methodLink RX7 78 yX5_firstFault, Cond.static yX5_firstFault, Cond.initialized RX5, Cond.code yX5_firstFault cX5_firstFault 6 (some .int), Cond.methodLink RX5 9 yX5_goesOn, Cond.static yX5_goesOn, Cond.code yX5_goesOn cX5_goesOn 6 (some .boolean), Cond.methodLink RX5 15 yX3_cellOf, Cond.instanceMethod yX3_cellOf, Cond.selects RX3 yX3_cellOf yX3_cellOf, Cond.code yX3_cellOf cX3_cellOf 3 (some .int)]
def wsL_law_r7 : List Cond := [Cond.methodLink RX5 21 yX5_number, Cond.static yX5_number, Cond.code yX5_number cX5_number 5 (some .int), Cond.methodLink RX7 84 yX1_clear, Cond.instanceMethod yX1_clear, Cond.selects RX1 yX1_clear yX1_clear, Cond.code yX1_clear cX1_clear 1 none, Cond.methodLink RX7 87 yX2_clear, Cond.instanceMethod yX2_clear, Cond.selects RX2 yX2_clear yX2_clear, Cond.code yX2_clear cX2_clear 1 none, Cond.methodLink RX7 88 yX5_read, Cond.static yX5_read, Cond.code yX5_read cX5_read 6 none, Cond.methodLink RX5 25 yX6_clear, Cond.instanceMethod yX6_clear, Cond.selects RX6 yX6_clear yX6_clear, Cond.code yX6_clear cX6_clear 1 none, Cond.methodLink RX5 30 yX6_add, Cond.instanceMethod yX6_add, Cond.selects RX6 yX6_add yX6_add, Cond.code yX6_add cX6_add 2 none, Cond.methodLink RX7 92 yX6_count, Cond.instanceMethod yX6_count]
def wsL_law_r8 : List Cond := [Cond.selects RX6 yX6_count yX6_count, Cond.code yX6_count cX6_count 1 (some .int), Cond.methodLink RL 17 yX8_market, Cond.instanceMethod yX8_market, Cond.selects RX8 yX8_market yX8_market, Cond.code yX8_market cX8_market 8 (some .int), Cond.fieldLink RX8 58 "ByHandModel" "fault" "I", Cond.fieldLink RX8 86 "ByHandModel" "at" "I", Cond.fieldLink RX8 92 "ByHandModel" "readThings" "I", Cond.fieldLink RX8 68 "ByHandModel" "things" "I", Cond.fieldLink RX8 95 "ByHandModel" "hands" "I", Cond.fieldLink RX8 98 "ByHandModel" "sayings" "I", Cond.methodLink RX8 71 yX8_isSheet, Cond.static yX8_isSheet, Cond.code yX8_isSheet cX8_isSheet 1 (some .boolean), Cond.methodLink RX8 64 yX8_within, Cond.static yX8_within, Cond.code yX8_within cX8_within 3 (some .boolean), Cond.methodLink RX8 75 yX8_isSort, Cond.static yX8_isSort, Cond.code yX8_isSort cX8_isSort 1 (some .boolean), Cond.methodLink RX8 78 yX8_against, Cond.instanceMethod yX8_against, Cond.selects RX8 yX8_against yX8_against]
def wsL_law_r9 : List Cond := [Cond.code yX8_against cX8_against 5 (some .int), Cond.methodLink RX8 82 yX8_fails, Cond.instanceMethod yX8_fails, Cond.selects RX8 yX8_fails yX8_fails, Cond.code yX8_fails cX8_fails 2 (some .int), Cond.methodLink RX8 89 yX8_readMarket, Cond.instanceMethod yX8_readMarket, Cond.selects RX8 yX8_readMarket yX8_readMarket, Cond.code yX8_readMarket cX8_readMarket 4 (some .boolean), Cond.methodLink RL 18 yX7_weight, Cond.instanceMethod yX7_weight, Cond.selects RX7 yX7_weight yX7_weight, Cond.code yX7_weight cX7_weight 2 (some .int), Cond.methodLink RX7 96 yX6_has, Cond.instanceMethod yX6_has, Cond.selects RX6 yX6_has yX6_has, Cond.code yX6_has cX6_has 2 (some .boolean), Cond.methodLink RX7 97 yX6_weightOf, Cond.instanceMethod yX6_weightOf, Cond.selects RX6 yX6_weightOf yX6_weightOf, Cond.code yX6_weightOf cX6_weightOf 2 (some .int), Cond.methodLink RX6 19 yX6_has, Cond.methodLink RL 22 yX8_weight, Cond.instanceMethod yX8_weight]
def wsL_law_r10 : List Cond := [Cond.selects RX8 yX8_weight yX8_weight, Cond.code yX8_weight cX8_weight 2 (some .int), Cond.methodLink RX8 101 yX8_isThing, Cond.instanceMethod yX8_isThing, Cond.selects RX8 yX8_isThing yX8_isThing, Cond.code yX8_isThing cX8_isThing 2 (some .boolean), Cond.methodLink RL 23 yX7_weigh, Cond.instanceMethod yX7_weigh, Cond.selects RX7 yX7_weigh yX7_weigh, Cond.code yX7_weigh cX7_weigh 4 (some .int), Cond.methodLink RX7 100 yX6_setWeight, Cond.instanceMethod yX6_setWeight, Cond.selects RX6 yX6_setWeight yX6_setWeight, Cond.code yX6_setWeight cX6_setWeight 3 none, Cond.methodLink RL 27 yX8_weigh, Cond.instanceMethod yX8_weigh, Cond.selects RX8 yX8_weigh yX8_weigh, Cond.code yX8_weigh cX8_weigh 4 (some .int), Cond.methodLink RX8 104 yX8_isWeight, Cond.static yX8_isWeight, Cond.code yX8_isWeight cX8_isWeight 1 (some .boolean), Cond.methodLink RL 28 yX7_hand, Cond.instanceMethod yX7_hand, Cond.selects RX7 yX7_hand yX7_hand]
def wsL_law_r11 : List Cond := [Cond.code yX7_hand cX7_hand 3 (some .int), Cond.methodLink RX7 104 yX7_isKind, Cond.static yX7_isKind, Cond.code yX7_isKind cX7_isKind 1 (some .boolean), Cond.methodLink RX7 107 yX1_add, Cond.instanceMethod yX1_add, Cond.selects RX1 yX1_add yX1_add, Cond.code yX1_add cX1_add 3 (some .int), Cond.methodLink RL 31 yX8_hand, Cond.instanceMethod yX8_hand, Cond.selects RX8 yX8_hand yX8_hand, Cond.code yX8_hand cX8_hand 3 (some .int), Cond.methodLink RL 32 yX7_ofHand, Cond.instanceMethod yX7_ofHand, Cond.selects RX7 yX7_ofHand yX7_ofHand, Cond.code yX7_ofHand cX7_ofHand 3 (some .int), Cond.methodLink RX7 111 yX1_has, Cond.instanceMethod yX1_has, Cond.selects RX1 yX1_has yX1_has, Cond.code yX1_has cX1_has 2 (some .boolean), Cond.methodLink RX7 112 yX7_isFirstOrSecond, Cond.static yX7_isFirstOrSecond, Cond.code yX7_isFirstOrSecond cX7_isFirstOrSecond 1 (some .boolean), Cond.methodLink RX7 115 yX1_kindOf]
def wsL_law_r12 : List Cond := [Cond.instanceMethod yX1_kindOf, Cond.selects RX1 yX1_kindOf yX1_kindOf, Cond.code yX1_kindOf cX1_kindOf 2 (some .int), Cond.methodLink RX1 22 yX1_has, Cond.methodLink RX7 118 yX1_partOf, Cond.instanceMethod yX1_partOf, Cond.selects RX1 yX1_partOf yX1_partOf, Cond.code yX1_partOf cX1_partOf 2 (some .int), Cond.methodLink RL 35 yX8_ofHand, Cond.instanceMethod yX8_ofHand, Cond.selects RX8 yX8_ofHand yX8_ofHand, Cond.code yX8_ofHand cX8_ofHand 3 (some .int), Cond.methodLink RX8 107 yX8_isHand, Cond.instanceMethod yX8_isHand, Cond.selects RX8 yX8_isHand yX8_isHand, Cond.code yX8_isHand cX8_isHand 2 (some .boolean), Cond.methodLink RL 36 yX7_tells, Cond.instanceMethod yX7_tells, Cond.selects RX7 yX7_tells yX7_tells, Cond.code yX7_tells cX7_tells 4 (some .int), Cond.methodLink RX7 121 yX1_feelsHeavier, Cond.instanceMethod yX1_feelsHeavier, Cond.selects RX1 yX1_feelsHeavier yX1_feelsHeavier, Cond.code yX1_feelsHeavier cX1_feelsHeavier 5 (some .boolean)]
def wsL_law_r13 : List Cond := [Cond.methodLink RX1 33 yX1_timesOf, Cond.instanceMethod yX1_timesOf, Cond.selects RX1 yX1_timesOf yX1_timesOf, Cond.code yX1_timesOf cX1_timesOf 2 (some .int), Cond.methodLink RX1 26 yX1_kindOf, Cond.methodLink RX1 30 yX1_partOf, Cond.methodLink RL 40 yX8_tells, Cond.instanceMethod yX8_tells, Cond.selects RX8 yX8_tells yX8_tells, Cond.code yX8_tells cX8_tells 4 (some .int), Cond.methodLink RX8 113 yX8_isTold, Cond.instanceMethod yX8_isTold, Cond.selects RX8 yX8_isTold yX8_isTold, Cond.code yX8_isTold cX8_isTold 5 (some .boolean), Cond.methodLink RX8 110 yX8_times, Cond.instanceMethod yX8_times, Cond.selects RX8 yX8_times yX8_times, Cond.code yX8_times cX8_times 2 (some .int), Cond.methodLink RL 41 yX7_alike, Cond.instanceMethod yX7_alike, Cond.selects RX7 yX7_alike yX7_alike, Cond.code yX7_alike cX7_alike 3 (some .int), Cond.methodLink RX7 125 yX4_lay, Cond.instanceMethod yX4_lay]
def wsL_law_r14 : List Cond := [Cond.selects RX4 yX4_lay yX4_lay, Cond.code yX4_lay cX4_lay 6 none, Cond.methodLink RX4 30 Lib.Math.min.name, Cond.static Lib.Math.min.name, Cond.initialized "java/lang/Math", Cond.code Lib.Math.min.name Lib.Math.min.code 2 (some .int), Cond.methodLink RX4 25 yX6_count, Cond.methodLink RX4 36 yX6_weightOf, Cond.methodLink RX4 40 yX1_feelsHeavier, Cond.methodLink RX4 46 yX1_feelsAlike, Cond.instanceMethod yX1_feelsAlike, Cond.selects RX1 yX1_feelsAlike yX1_feelsAlike, Cond.code yX1_feelsAlike cX1_feelsAlike 4 (some .boolean), Cond.methodLink RX1 36 yX1_feelsHeavier, Cond.methodLink RX7 129 yX4_alikeTo, Cond.instanceMethod yX4_alikeTo, Cond.selects RX4 yX4_alikeTo yX4_alikeTo, Cond.code yX4_alikeTo cX4_alikeTo 2 (some .int), Cond.methodLink RX4 49 yX4_has, Cond.instanceMethod yX4_has, Cond.selects RX4 yX4_has yX4_has, Cond.code yX4_has cX4_has 2 (some .boolean), Cond.methodLink RL 44 yX8_alike, Cond.instanceMethod yX8_alike]
def wsL_law_r15 : List Cond := [Cond.selects RX8 yX8_alike yX8_alike, Cond.code yX8_alike cX8_alike 3 (some .int), Cond.methodLink RX8 122 yX8_alikeTo, Cond.instanceMethod yX8_alikeTo, Cond.selects RX8 yX8_alikeTo yX8_alikeTo, Cond.code yX8_alikeTo cX8_alikeTo 5 (some .int), Cond.methodLink RX8 119 yX8_areAlike, Cond.instanceMethod yX8_areAlike, Cond.selects RX8 yX8_areAlike yX8_areAlike, Cond.code yX8_areAlike cX8_areAlike 4 (some .boolean), Cond.methodLink RX8 116 yX8_tellsThem, Cond.instanceMethod yX8_tellsThem, Cond.selects RX8 yX8_tellsThem yX8_tellsThem, Cond.code yX8_tellsThem cX8_tellsThem 4 (some .boolean), Cond.methodLink RL 45 yX7_finer, Cond.instanceMethod yX7_finer, Cond.selects RX7 yX7_finer yX7_finer, Cond.code yX7_finer cX7_finer 3 (some .int), Cond.methodLink RX7 132 yX4_isFinerThan, Cond.instanceMethod yX4_isFinerThan, Cond.selects RX4 yX4_isFinerThan yX4_isFinerThan, Cond.code yX4_isFinerThan cX4_isFinerThan 4 (some .boolean), Cond.methodLink RX4 61 yX4_lighterThan, Cond.instanceMethod yX4_lighterThan]
def wsL_law_r16 : List Cond := [Cond.selects RX4 yX4_lighterThan yX4_lighterThan, Cond.code yX4_lighterThan cX4_lighterThan 2 (some .int), Cond.methodLink RL 48 yX8_finer, Cond.instanceMethod yX8_finer, Cond.selects RX8 yX8_finer yX8_finer, Cond.code yX8_finer cX8_finer 7 (some .int), Cond.methodLink RL 49 yX7_way, Cond.instanceMethod yX7_way, Cond.selects RX7 yX7_way yX7_way, Cond.code yX7_way cX7_way 5 (some .int), Cond.methodLink RX7 136 yX4_fewestSwaps, Cond.instanceMethod yX4_fewestSwaps, Cond.selects RX4 yX4_fewestSwaps yX4_fewestSwaps, Cond.code yX4_fewestSwaps cX4_fewestSwaps 4 (some .int), Cond.methodLink RX4 71 yX4_within, Cond.instanceMethod yX4_within, Cond.selects RX4 yX4_within yX4_within, Cond.code yX4_within cX4_within 5 (some .int), Cond.methodLink RX4 64 yX4_alikeToAny, Cond.instanceMethod yX4_alikeToAny, Cond.selects RX4 yX4_alikeToAny yX4_alikeToAny, Cond.code yX4_alikeToAny cX4_alikeToAny 4 (some .int), Cond.static yX7_isIn, Cond.code yX7_isIn cX7_isIn 2 (some .boolean)]
def wsL_law_r17 : List Cond := [Cond.methodLink RX7 139 yX4_behindSwaps, Cond.instanceMethod yX4_behindSwaps, Cond.selects RX4 yX4_behindSwaps yX4_behindSwaps, Cond.code yX4_behindSwaps cX4_behindSwaps 7 (some .int), Cond.methodLink RX4 74 yX4_fewestSwaps, Cond.methodLink RX4 53 yX4_alikeTo, Cond.methodLink RX4 77 yX4_leastIn, Cond.instanceMethod yX4_leastIn, Cond.selects RX4 yX4_leastIn yX4_leastIn, Cond.code yX4_leastIn cX4_leastIn 3 (some .int), Cond.methodLink RL 52 yX8_way, Cond.instanceMethod yX8_way, Cond.selects RX8 yX8_way yX8_way, Cond.code yX8_way cX8_way 7 (some .int), Cond.methodLink RX8 126 yX8_findFar, Cond.instanceMethod yX8_findFar, Cond.selects RX8 yX8_findFar yX8_findFar, Cond.code yX8_findFar cX8_findFar 6 none, Cond.methodLink RX8 130 yX8_nextOf, Cond.instanceMethod yX8_nextOf, Cond.selects RX8 yX8_nextOf yX8_nextOf, Cond.code yX8_nextOf cX8_nextOf 4 (some .int), Cond.methodLink RL 53 yX7_noon, Cond.instanceMethod yX7_noon]
def wsL_law_r18 : List Cond := [Cond.selects RX7 yX7_noon yX7_noon, Cond.code yX7_noon cX7_noon 4 (some .int), Cond.methodLink RX7 143 yX4_within, Cond.methodLink RL 56 yX8_noon, Cond.instanceMethod yX8_noon, Cond.selects RX8 yX8_noon yX8_noon, Cond.code yX8_noon cX8_noon 6 (some .int), Cond.methodLink RL 57 yX7_gain, Cond.instanceMethod yX7_gain, Cond.selects RX7 yX7_gain yX7_gain, Cond.code yX7_gain cX7_gain 11 (some .int), Cond.methodLink RX7 146 yX7_swappedUp, Cond.instanceMethod yX7_swappedUp, Cond.selects RX7 yX7_swappedUp yX7_swappedUp, Cond.code yX7_swappedUp cX7_swappedUp 4 (some .int), Cond.methodLink RX7 152 yX4_lighterThan, Cond.methodLink RX7 149 yX6_greatestOf, Cond.instanceMethod yX6_greatestOf, Cond.selects RX6 yX6_greatestOf yX6_greatestOf, Cond.code yX6_greatestOf cX6_greatestOf 4 (some .int), Cond.methodLink RX6 31 Lib.Math.max.name, Cond.static Lib.Math.max.name, Cond.code Lib.Math.max.name Lib.Math.max.code 2 (some .int), Cond.methodLink RX6 27 yX6_weightOf]
def wsL_law_r19 : List Cond := [Cond.methodLink RL 61 yX8_gain, Cond.instanceMethod yX8_gain, Cond.selects RX8 yX8_gain yX8_gain, Cond.code yX8_gain cX8_gain 12 (some .int), Cond.methodLink RX8 133 yX8_isGot, Cond.instanceMethod yX8_isGot, Cond.selects RX8 yX8_isGot yX8_isGot, Cond.code yX8_isGot cX8_isGot 6 (some .boolean), Cond.methodLink RL 62 yX7_saying, Cond.instanceMethod yX7_saying, Cond.selects RX7 yX7_saying yX7_saying, Cond.code yX7_saying cX7_saying 5 (some .int), Cond.methodLink RX7 155 yX2_add, Cond.instanceMethod yX2_add, Cond.selects RX2 yX2_add yX2_add, Cond.code yX2_add cX2_add 5 (some .int), Cond.methodLink RL 65 yX8_saying, Cond.instanceMethod yX8_saying, Cond.selects RX8 yX8_saying yX8_saying, Cond.code yX8_saying cX8_saying 5 (some .int), Cond.methodLink RL 66 yX7_back, Cond.instanceMethod yX7_back, Cond.selects RX7 yX7_back yX7_back, Cond.code yX7_back cX7_back 2 (some .int)]
def wsL_law_r20 : List Cond := [Cond.methodLink RX7 157 yX2_count, Cond.instanceMethod yX2_count, Cond.selects RX2 yX2_count yX2_count, Cond.code yX2_count cX2_count 1 (some .int), Cond.methodLink RX7 158 yX2_takeBack, Cond.instanceMethod yX2_takeBack, Cond.selects RX2 yX2_takeBack yX2_takeBack, Cond.code yX2_takeBack cX2_takeBack 2 (some .int), Cond.methodLink RX2 32 Lib.Math.max.name, Cond.methodLink RL 69 yX8_back, Cond.instanceMethod yX8_back, Cond.selects RX8 yX8_back yX8_back, Cond.code yX8_back cX8_back 2 (some .int), Cond.methodLink RL 70 yX7_untrue, Cond.instanceMethod yX7_untrue, Cond.selects RX7 yX7_untrue yX7_untrue, Cond.code yX7_untrue cX7_untrue 5 (some .int), Cond.methodLink RX7 161 yX2_firstOf, Cond.instanceMethod yX2_firstOf, Cond.selects RX2 yX2_firstOf yX2_firstOf, Cond.code yX2_firstOf cX2_firstOf 2 (some .int), Cond.methodLink RX2 28 yX2_has, Cond.instanceMethod yX2_has, Cond.selects RX2 yX2_has yX2_has]
def wsL_law_r21 : List Cond := [Cond.code yX2_has cX2_has 2 (some .boolean), Cond.methodLink RX7 164 yX2_secondOf, Cond.instanceMethod yX2_secondOf, Cond.selects RX2 yX2_secondOf yX2_secondOf, Cond.code yX2_secondOf cX2_secondOf 2 (some .int), Cond.methodLink RX7 167 yX2_isFalse, Cond.instanceMethod yX2_isFalse, Cond.selects RX2 yX2_isFalse yX2_isFalse, Cond.code yX2_isFalse cX2_isFalse 5 (some .boolean), Cond.methodLink RX2 38 yX1_feelsHeavier, Cond.methodLink RX2 44 yX1_feelsAlike, Cond.methodLink RL 74 yX8_untrue, Cond.instanceMethod yX8_untrue, Cond.selects RX8 yX8_untrue yX8_untrue, Cond.code yX8_untrue cX8_untrue 3 (some .int), Cond.methodLink RX8 137 yX8_isSo, Cond.instanceMethod yX8_isSo, Cond.selects RX8 yX8_isSo yX8_isSo, Cond.code yX8_isSo cX8_isSo 4 (some .boolean), Cond.methodLink RL 75 yX7_leaves, Cond.instanceMethod yX7_leaves, Cond.selects RX7 yX7_leaves yX7_leaves, Cond.code yX7_leaves cX7_leaves 7 (some .int), Cond.methodLink RX7 171 yX7_falseByWeight]
def wsL_law_r22 : List Cond := [Cond.instanceMethod yX7_falseByWeight, Cond.selects RX7 yX7_falseByWeight yX7_falseByWeight, Cond.code yX7_falseByWeight cX7_falseByWeight 9 (some .int), Cond.methodLink RL 78 yX8_leaves, Cond.instanceMethod yX8_leaves, Cond.selects RX8 yX8_leaves yX8_leaves, Cond.code yX8_leaves cX8_leaves 8 (some .int), Cond.methodLink RX8 140 yX8_falseOf, Cond.instanceMethod yX8_falseOf, Cond.selects RX8 yX8_falseOf yX8_falseOf, Cond.code yX8_falseOf cX8_falseOf 4 (some .int), Cond.methodLink RL 79 yX7_breaks, Cond.instanceMethod yX7_breaks, Cond.selects RX7 yX7_breaks yX7_breaks, Cond.code yX7_breaks cX7_breaks 7 (some .int), Cond.methodLink RL 82 yX8_breaks, Cond.instanceMethod yX8_breaks, Cond.selects RX8 yX8_breaks yX8_breaks, Cond.code yX8_breaks cX8_breaks 8 (some .int), Cond.methodLink RL 83 yX7_rows, Cond.instanceMethod yX7_rows, Cond.selects RX7 yX7_rows yX7_rows, Cond.code yX7_rows cX7_rows 3 (some .int), Cond.methodLink RX7 174 yX4_countOrders]
def wsL_law_r23 : List Cond := [Cond.instanceMethod yX4_countOrders, Cond.selects RX4 yX4_countOrders yX4_countOrders, Cond.code yX4_countOrders cX4_countOrders 5 (some .int), Cond.methodLink RX4 80 yX4_allThings, Cond.instanceMethod yX4_allThings, Cond.selects RX4 yX4_allThings yX4_allThings, Cond.code yX4_allThings cX4_allThings 1 (some .int), Cond.methodLink RX7 177 yX4_placeInFirstOrder, Cond.instanceMethod yX4_placeInFirstOrder, Cond.selects RX4 yX4_placeInFirstOrder yX4_placeInFirstOrder, Cond.code yX4_placeInFirstOrder cX4_placeInFirstOrder 5 (some .int), Cond.methodLink RX4 83 yX4_fittingBehind, Cond.instanceMethod yX4_fittingBehind, Cond.selects RX4 yX4_fittingBehind yX4_fittingBehind, Cond.code yX4_fittingBehind cX4_fittingBehind 4 (some .int), Cond.methodLink RL 86 yX8_rows, Cond.instanceMethod yX8_rows, Cond.selects RX8 yX8_rows yX8_rows, Cond.code yX8_rows cX8_rows 6 (some .int), Cond.methodLink RX8 143 yX8_inFirstRow, Cond.instanceMethod yX8_inFirstRow, Cond.selects RX8 yX8_inFirstRow yX8_inFirstRow, Cond.code yX8_inFirstRow cX8_inFirstRow 6 (some .int), Cond.methodLink RX8 146 yX8_mayStand]
def wsL_law_r24 : List Cond := [Cond.instanceMethod yX8_mayStand, Cond.selects RX8 yX8_mayStand yX8_mayStand, Cond.code yX8_mayStand cX8_mayStand 5 (some .boolean), Cond.methodLink RL 87 yX7_longest, Cond.instanceMethod yX7_longest, Cond.selects RX7 yX7_longest yX7_longest, Cond.code yX7_longest cX7_longest 2 (some .int), Cond.methodLink RX7 180 yX4_longestChain, Cond.instanceMethod yX4_longestChain, Cond.selects RX4 yX4_longestChain yX4_longestChain, Cond.code yX4_longestChain cX4_longestChain 4 (some .int), Cond.methodLink RX4 86 yX4_heavierThanAny, Cond.instanceMethod yX4_heavierThanAny, Cond.selects RX4 yX4_heavierThanAny yX4_heavierThanAny, Cond.code yX4_heavierThanAny cX4_heavierThanAny 4 (some .int), Cond.methodLink RL 90 yX8_longest, Cond.instanceMethod yX8_longest, Cond.selects RX8 yX8_longest yX8_longest, Cond.code yX8_longest cX8_longest 6 (some .int), Cond.methodLink RL 91 yX7_crowd, Cond.instanceMethod yX7_crowd, Cond.selects RX7 yX7_crowd yX7_crowd, Cond.code yX7_crowd cX7_crowd 2 (some .int), Cond.methodLink RX7 183 yX4_greatestCrowd]
def wsL_law_r25 : List Cond := [Cond.instanceMethod yX4_greatestCrowd, Cond.selects RX4 yX4_greatestCrowd yX4_greatestCrowd, Cond.code yX4_greatestCrowd cX4_greatestCrowd 3 (some .int), Cond.methodLink RX4 56 yJ6_bitCount_0f7a4, Cond.static yJ6_bitCount_0f7a4, Cond.initialized RJ6, Cond.code yJ6_bitCount_0f7a4 cJ6_bitCount_0f7a4 1 (some .int), Cond.constant RJ6 265 (1431655765), Cond.constant RJ6 266 (858993459), Cond.constant RJ6 267 (252645135), Cond.methodLink RX4 89 yX4_areAllAlike, Cond.instanceMethod yX4_areAllAlike, Cond.selects RX4 yX4_areAllAlike yX4_areAllAlike, Cond.code yX4_areAllAlike cX4_areAllAlike 3 (some .boolean), Cond.methodLink RL 94 yX8_crowd, Cond.instanceMethod yX8_crowd, Cond.selects RX8 yX8_crowd yX8_crowd, Cond.code yX8_crowd cX8_crowd 4 (some .int), Cond.methodLink RX8 149 yX8_bits, Cond.static yX8_bits, Cond.code yX8_bits cX8_bits 3 (some .int), Cond.methodLink RX8 152 yX8_isCrowd, Cond.instanceMethod yX8_isCrowd, Cond.selects RX8 yX8_isCrowd yX8_isCrowd]
def wsL_law_r26 : List Cond := [Cond.code yX8_isCrowd cX8_isCrowd 4 (some .boolean), Cond.methodLink RL 95 yX7_measure, Cond.instanceMethod yX7_measure, Cond.selects RX7 yX7_measure yX7_measure, Cond.code yX7_measure cX7_measure 5 (some .int), Cond.methodLink RX7 186 yX4_othersAlikeTo, Cond.instanceMethod yX4_othersAlikeTo, Cond.selects RX4 yX4_othersAlikeTo yX4_othersAlikeTo, Cond.code yX4_othersAlikeTo cX4_othersAlikeTo 2 (some .int), Cond.methodLink RL 98 yX8_measure, Cond.instanceMethod yX8_measure, Cond.selects RX8 yX8_measure yX8_measure, Cond.code yX8_measure cX8_measure 7 (some .int), Cond.methodLink RL 99 yX7_copies, Cond.instanceMethod yX7_copies, Cond.selects RX7 yX7_copies yX7_copies, Cond.code yX7_copies cX7_copies 8 (some .int), Cond.methodLink RX7 189 yX7_takeHandRow, Cond.instanceMethod yX7_takeHandRow, Cond.selects RX7 yX7_takeHandRow yX7_takeHandRow, Cond.code yX7_takeHandRow cX7_takeHandRow 8 (some .int), Cond.methodLink RX7 205 yX0_clear, Cond.instanceMethod yX0_clear, Cond.selects RX0 yX0_clear yX0_clear]
def wsL_law_r27 : List Cond := [Cond.code yX0_clear cX0_clear 1 none, Cond.methodLink RX7 206 yX3_cellOf, Cond.methodLink RX7 209 yX0_add, Cond.instanceMethod yX0_add, Cond.selects RX0 yX0_add yX0_add, Cond.code yX0_add cX0_add 2 none, Cond.methodLink RX7 192 yX0_greatestCopy, Cond.instanceMethod yX0_greatestCopy, Cond.selects RX0 yX0_greatestCopy yX0_greatestCopy, Cond.code yX0_greatestCopy cX0_greatestCopy 5 (some .int), Cond.methodLink RX0 22 yX1_greatestUntold, Cond.instanceMethod yX1_greatestUntold, Cond.selects RX1 yX1_greatestUntold yX1_greatestUntold, Cond.code yX1_greatestUntold cX1_greatestUntold 4 (some .int), Cond.methodLink RX7 196 yX0_leastCopy, Cond.instanceMethod yX0_leastCopy, Cond.selects RX0 yX0_leastCopy yX0_leastCopy, Cond.code yX0_leastCopy cX0_leastCopy 5 (some .int), Cond.methodLink RX0 28 yX1_leastUntold, Cond.instanceMethod yX1_leastUntold, Cond.selects RX1 yX1_leastUntold yX1_leastUntold, Cond.code yX1_leastUntold cX1_leastUntold 5 (some .int), Cond.methodLink RL 103 yX8_copies, Cond.instanceMethod yX8_copies]
def wsL_law_r28 : List Cond := [Cond.selects RX8 yX8_copies yX8_copies, Cond.code yX8_copies cX8_copies 9 (some .int), Cond.methodLink RX8 162 yX8_layRow, Cond.instanceMethod yX8_layRow, Cond.selects RX8 yX8_layRow yX8_layRow, Cond.code yX8_layRow cX8_layRow 6 (some .int), Cond.methodLink RX8 166 yX8_copied, Cond.instanceMethod yX8_copied, Cond.selects RX8 yX8_copied yX8_copied, Cond.code yX8_copied cX8_copied 7 (some .int), Cond.methodLink RX8 156 yX8_greatest, Cond.instanceMethod yX8_greatest, Cond.selects RX8 yX8_greatest yX8_greatest, Cond.code yX8_greatest cX8_greatest 3 (some .int), Cond.methodLink RX8 159 yX8_least, Cond.instanceMethod yX8_least, Cond.selects RX8 yX8_least yX8_least, Cond.code yX8_least cX8_least 6 (some .int), Cond.methodLink RL 104 yX7_bestRow, Cond.instanceMethod yX7_bestRow, Cond.selects RX7 yX7_bestRow yX7_bestRow, Cond.code yX7_bestRow cX7_bestRow 9 (some .int), Cond.methodLink RX7 199 yX0_findBest, Cond.instanceMethod yX0_findBest]
def wsL_law_r29 : List Cond := [Cond.selects RX0 yX0_findBest yX0_findBest, Cond.code yX0_findBest cX0_findBest 6 (some .int), Cond.methodLink RX0 38 yX0_sortRow, Cond.instanceMethod yX0_sortRow, Cond.selects RX0 yX0_sortRow yX0_sortRow, Cond.code yX0_sortRow cX0_sortRow 3 none, Cond.methodLink RX0 51 yX0_exchange, Cond.instanceMethod yX0_exchange, Cond.selects RX0 yX0_exchange yX0_exchange, Cond.code yX0_exchange cX0_exchange 4 none, Cond.methodLink RX0 41 yX0_spread, Cond.instanceMethod yX0_spread, Cond.selects RX0 yX0_spread yX0_spread, Cond.code yX0_spread cX0_spread 3 (some .int), Cond.methodLink RX0 31 yX0_greatestCopy, Cond.methodLink RX0 35 yX0_leastCopy, Cond.methodLink RX0 44 yX0_keepAsBest, Cond.instanceMethod yX0_keepAsBest, Cond.selects RX0 yX0_keepAsBest yX0_keepAsBest, Cond.code yX0_keepAsBest cX0_keepAsBest 2 none, Cond.methodLink RX0 47 yX0_toNextOrder, Cond.instanceMethod yX0_toNextOrder, Cond.selects RX0 yX0_toNextOrder yX0_toNextOrder, Cond.code yX0_toNextOrder cX0_toNextOrder 5 (some .boolean)]
def wsL_law_r30 : List Cond := [Cond.methodLink RX7 202 yX0_inBest, Cond.instanceMethod yX0_inBest, Cond.selects RX0 yX0_inBest yX0_inBest, Cond.code yX0_inBest cX0_inBest 2 (some .int), Cond.methodLink RL 107 yX8_bestRow, Cond.instanceMethod yX8_bestRow, Cond.selects RX8 yX8_bestRow yX8_bestRow, Cond.code yX8_bestRow cX8_bestRow 10 (some .int), Cond.methodLink RX8 175 yX8_findBestRow, Cond.instanceMethod yX8_findBestRow, Cond.selects RX8 yX8_findBestRow yX8_findBestRow, Cond.code yX8_findBestRow cX8_findBestRow 7 (some .int), Cond.methodLink RX8 169 yX8_exchange, Cond.instanceMethod yX8_exchange, Cond.selects RX8 yX8_exchange yX8_exchange, Cond.code yX8_exchange cX8_exchange 4 none, Cond.methodLink RX8 172 yX8_nextRow, Cond.instanceMethod yX8_nextRow, Cond.selects RX8 yX8_nextRow yX8_nextRow, Cond.code yX8_nextRow cX8_nextRow 6 (some .boolean), Cond.methodLink RL 108 yX7_even, Cond.instanceMethod yX7_even, Cond.selects RX7 yX7_even yX7_even, Cond.code yX7_even cX7_even 9 (some .int)]
def wsL_law_r31 : List Cond := [Cond.methodLink RX7 212 yX6_weightTogether, Cond.instanceMethod yX6_weightTogether, Cond.selects RX6 yX6_weightTogether yX6_weightTogether, Cond.code yX6_weightTogether cX6_weightTogether 4 (some .int), Cond.methodLink RX7 215 yJ6_bitCount_0f7a4, Cond.methodLink RX7 220 yX1_feelsAlike, Cond.methodLink RL 111 yX8_even, Cond.instanceMethod yX8_even, Cond.selects RX8 yX8_even yX8_even, Cond.code yX8_even cX8_even 8 (some .int), Cond.methodLink RX8 181 yX8_areEven, Cond.instanceMethod yX8_areEven, Cond.selects RX8 yX8_areEven yX8_areEven, Cond.code yX8_areEven cX8_areEven 4 (some .boolean), Cond.methodLink RX8 178 yX8_sumOf, Cond.instanceMethod yX8_sumOf, Cond.selects RX8 yX8_sumOf yX8_sumOf, Cond.code yX8_sumOf cX8_sumOf 4 (some .int), Cond.methodLink RL 112 yX7_odds, Cond.instanceMethod yX7_odds, Cond.selects RX7 yX7_odds yX7_odds, Cond.code yX7_odds cX7_odds 6 (some .long), Cond.constantLong RX7 223 (-9223372036854775808), Cond.methodLink RX7 225 yX4_countTold]
def wsL_law_r32 : List Cond := [Cond.instanceMethod yX4_countTold, Cond.selects RX4 yX4_countTold yX4_countTold, Cond.code yX4_countTold cX4_countTold 3 (some .int), Cond.methodLink RX7 228 yX7_commonDivisor, Cond.static yX7_commonDivisor, Cond.code yX7_commonDivisor cX7_commonDivisor 3 (some .int), Cond.methodLink RL 116 yX8_odds, Cond.instanceMethod yX8_odds, Cond.selects RX8 yX8_odds yX8_odds, Cond.code yX8_odds cX8_odds 6 (some .long), Cond.constantLong RX8 62 (-9223372036854775808), Cond.methodLink RX8 184 yX8_share, Cond.static yX8_share, Cond.code yX8_share cX8_share 11 (some .long), Cond.methodLink RL 117 yX7_sheet, Cond.instanceMethod yX7_sheet, Cond.selects RX7 yX7_sheet yX7_sheet, Cond.code yX7_sheet cX7_sheet 4 (some .int), Cond.methodLink RX7 231 yX3_renew, Cond.instanceMethod yX3_renew, Cond.selects RX3 yX3_renew yX3_renew, Cond.code yX3_renew cX3_renew 5 none, Cond.methodLink RL 120 yX8_sheet, Cond.instanceMethod yX8_sheet]
def wsL_law_r33 : List Cond := [Cond.selects RX8 yX8_sheet yX8_sheet, Cond.code yX8_sheet cX8_sheet 5 (some .int), Cond.methodLink RL 121 yX7_lose, Cond.instanceMethod yX7_lose, Cond.selects RX7 yX7_lose yX7_lose, Cond.code yX7_lose cX7_lose 2 (some .int), Cond.methodLink RX7 235 yX3_empty, Cond.instanceMethod yX3_empty, Cond.selects RX3 yX3_empty yX3_empty, Cond.code yX3_empty cX3_empty 3 (some .boolean), Cond.methodLink RL 124 yX8_lose, Cond.instanceMethod yX8_lose, Cond.selects RX8 yX8_lose yX8_lose, Cond.code yX8_lose cX8_lose 3 (some .int), Cond.methodLink RL 125 yX7_put, Cond.instanceMethod yX7_put, Cond.selects RX7 yX7_put yX7_put, Cond.code yX7_put cX7_put 4 (some .int), Cond.methodLink RX7 238 yX3_hasRow, Cond.methodLink RX7 241 yX3_hasCells, Cond.methodLink RX7 244 yX3_setCell, Cond.instanceMethod yX3_setCell, Cond.selects RX3 yX3_setCell yX3_setCell, Cond.code yX3_setCell cX3_setCell 4 none]
def wsL_law_r34 : List Cond := [Cond.methodLink RX3 42 yX3_cut, Cond.static yX3_cut, Cond.code yX3_cut cX3_cut 2 (some .int), Cond.methodLink RL 128 yX8_put, Cond.instanceMethod yX8_put, Cond.selects RX8 yX8_put yX8_put, Cond.code yX8_put cX8_put 4 (some .int), Cond.methodLink RL 129 yX7_cell, Cond.instanceMethod yX7_cell, Cond.selects RX7 yX7_cell yX7_cell, Cond.code yX7_cell cX7_cell 4 (some .long), Cond.methodLink RL 133 yX8_cell, Cond.instanceMethod yX8_cell, Cond.selects RX8 yX8_cell yX8_cell, Cond.code yX8_cell cX8_cell 4 (some .long), Cond.methodLink RX8 188 yX8_lost, Cond.instanceMethod yX8_lost, Cond.selects RX8 yX8_lost yX8_lost, Cond.code yX8_lost cX8_lost 2 (some .long), Cond.methodLink RL 134 yX7_copy, Cond.instanceMethod yX7_copy, Cond.selects RX7 yX7_copy yX7_copy, Cond.code yX7_copy cX7_copy 6 (some .int), Cond.methodLink RX7 247 yX3_sortOf]
def wsL_law_r35 : List Cond := [Cond.methodLink RX7 250 yX3_copyCells, Cond.instanceMethod yX3_copyCells, Cond.selects RX3 yX3_copyCells yX3_copyCells, Cond.code yX3_copyCells cX3_copyCells 6 none, Cond.methodLink RX3 46 arraycopyName, Cond.native arraycopyName, Cond.static arraycopyName, Cond.initialized "java/lang/System", Cond.methodLink RL 137 yX8_copy, Cond.instanceMethod yX8_copy, Cond.selects RX8 yX8_copy yX8_copy, Cond.code yX8_copy cX8_copy 10 (some .int), Cond.methodLink RL 138 yX7_tell, Cond.instanceMethod yX7_tell, Cond.selects RX7 yX7_tell yX7_tell, Cond.code yX7_tell cX7_tell 3 (some .int), Cond.methodLink RX7 254 yX7_smithBody, Cond.instanceMethod yX7_smithBody, Cond.selects RX7 yX7_smithBody yX7_smithBody, Cond.code yX7_smithBody cX7_smithBody 3 (some .int), Cond.methodLink RX7 270 yX7_leaveTrace, Cond.instanceMethod yX7_leaveTrace, Cond.selects RX7 yX7_leaveTrace yX7_leaveTrace, Cond.code yX7_leaveTrace cX7_leaveTrace 2 none]
def wsL_law_r36 : List Cond := [Cond.methodLink RX7 257 yX7_steadyBody, Cond.instanceMethod yX7_steadyBody, Cond.selects RX7 yX7_steadyBody yX7_steadyBody, Cond.code yX7_steadyBody cX7_steadyBody 2 (some .int), Cond.methodLink RX7 260 yX7_handBody, Cond.instanceMethod yX7_handBody, Cond.selects RX7 yX7_handBody yX7_handBody, Cond.code yX7_handBody cX7_handBody 2 (some .int), Cond.methodLink RL 141 yX8_tell, Cond.instanceMethod yX8_tell, Cond.selects RX8 yX8_tell yX8_tell, Cond.code yX8_tell cX8_tell 3 (some .int), Cond.methodLink RX8 195 yX8_begins, Cond.instanceMethod yX8_begins, Cond.selects RX8 yX8_begins yX8_begins, Cond.code yX8_begins cX8_begins 2 none, Cond.fieldLink RX8 192 "ByHandModel" "trace" "I", Cond.methodLink RL 142 yX7_shake, Cond.instanceMethod yX7_shake, Cond.selects RX7 yX7_shake yX7_shake, Cond.code yX7_shake cX7_shake 2 (some .int), Cond.methodLink RX7 263 yX7_smithsOwnBody, Cond.instanceMethod yX7_smithsOwnBody, Cond.selects RX7 yX7_smithsOwnBody yX7_smithsOwnBody]
def wsL_law_r37 : List Cond := [Cond.code yX7_smithsOwnBody cX7_smithsOwnBody 1 (some .int), Cond.methodLink RX7 266 yX7_lentBody, Cond.instanceMethod yX7_lentBody, Cond.selects RX7 yX7_lentBody yX7_lentBody, Cond.code yX7_lentBody cX7_lentBody 2 (some .int), Cond.methodLink RL 145 yX8_shake, Cond.instanceMethod yX8_shake, Cond.selects RX8 yX8_shake yX8_shake, Cond.code yX8_shake cX8_shake 2 (some .int), Cond.methodLink RL 146 yX7_as, Cond.instanceMethod yX7_as, Cond.selects RX7 yX7_as yX7_as, Cond.code yX7_as cX7_as 3 (some .int), Cond.methodLink RL 149 yX8_as, Cond.instanceMethod yX8_as, Cond.selects RX8 yX8_as yX8_as, Cond.code yX8_as cX8_as 3 (some .int), Cond.methodLink RL 150 yX7_trace, Cond.instanceMethod yX7_trace, Cond.selects RX7 yX7_trace yX7_trace, Cond.code yX7_trace cX7_trace 1 (some .int), Cond.methodLink RL 153 yX8_trace, Cond.instanceMethod yX8_trace, Cond.selects RX8 yX8_trace yX8_trace]
def wsL_law_r38 : List Cond := [Cond.code yX8_trace cX8_trace 1 (some .int), Cond.methodLink RL 154 yX7_fault, Cond.instanceMethod yX7_fault, Cond.selects RX7 yX7_fault yX7_fault, Cond.code yX7_fault cX7_fault 1 (some .int), Cond.methodLink RL 157 yX8_fault, Cond.instanceMethod yX8_fault, Cond.selects RX8 yX8_fault yX8_fault, Cond.code yX8_fault cX8_fault 1 (some .int), Cond.methodLink RL 158 yX7_many, Cond.instanceMethod yX7_many, Cond.selects RX7 yX7_many yX7_many, Cond.code yX7_many cX7_many 2 (some .int), Cond.methodLink RX7 269 yX1_count, Cond.instanceMethod yX1_count, Cond.selects RX1 yX1_count yX1_count, Cond.code yX1_count cX1_count 1 (some .int), Cond.methodLink RL 161 yX8_many, Cond.instanceMethod yX8_many, Cond.selects RX8 yX8_many yX8_many, Cond.code yX8_many cX8_many 2 (some .int)]
def wsL_law : List Cond := (wsL_law_r1 ++ (wsL_law_r2 ++ (wsL_law_r3 ++ (wsL_law_r4 ++ (wsL_law_r5 ++ (wsL_law_r6 ++ (wsL_law_r7 ++ (wsL_law_r8 ++ (wsL_law_r9 ++ (wsL_law_r10 ++ (wsL_law_r11 ++ (wsL_law_r12 ++ (wsL_law_r13 ++ (wsL_law_r14 ++ (wsL_law_r15 ++ (wsL_law_r16 ++ (wsL_law_r17 ++ (wsL_law_r18 ++ (wsL_law_r19 ++ (wsL_law_r20 ++ (wsL_law_r21 ++ (wsL_law_r22 ++ (wsL_law_r23 ++ (wsL_law_r24 ++ (wsL_law_r25 ++ (wsL_law_r26 ++ (wsL_law_r27 ++ (wsL_law_r28 ++ (wsL_law_r29 ++ (wsL_law_r30 ++ (wsL_law_r31 ++ (wsL_law_r32 ++ (wsL_law_r33 ++ (wsL_law_r34 ++ (wsL_law_r35 ++ (wsL_law_r36 ++ (wsL_law_r37 ++ wsL_law_r38))))))))))))))))))))))))))))))))))))) ++ wsX70 ++ wsX80 ++ wsX60 ++ wsX10 ++ wsX20 ++ wsX30 ++ wsX40 ++ wsX00 ++ ([] : List Cond)
set_option maxRecDepth 20000 in
theorem wsL_law_in : ∀ w ∈ wsL_law, w ∈ lw_tbl := fun w h => (goodIn_p wsL_law [70, 73, 78, 92, 108, 130, 152, 171, 739, 214, 218, 221, 225, 229, 234, 238, 242, 245, 248, 252, 255, 259, 263, 266, 270, 274, 278, 814, 817, 820, 823, 827, 831, 835, 282, 286, 290, 839, 843, 295, 299, 847, 850, 303, 306, 310, 854, 314, 318, 321, 325, 330, 858, 862, 334, 338, 342, 866, 870, 874, 348, 352, 356, 362, 367, 371, 878, 882, 886, 890, 375, 379, 383, 894, 387, 391, 395, 399, 402, 406, 412, 898, 902, 906, 416, 910, 421, 425, 430, 435, 914, 918, 439, 443, 922, 447, 451, 455, 926, 460, 464, 468, 472, 476, 930, 934, 482, 486, 938, 942, 490, 946, 494, 498, 502, 506, 510, 950, 954, 958, 514, 518, 522, 962, 526, 530, 533, 540, 966, 969, 973, 544, 548, 977, 552, 556, 560, 565, 569, 573, 577, 581, 981, 985, 989, 993, 997, 585, 589, 593, 597, 601, 607, 611, 615, 1001, 1005, 1009, 1013, 619, 623, 1017, 1021, 1025, 629, 634, 637, 1029, 1033, 641, 645, 1037, 649, 653, 1041, 657, 663, 666, 1045, 670, 1049, 1053, 674, 679, 1057, 686, 690, 694, 698, 702, 1061, 1065, 706, 710, 714, 1069, 718, 1073, 722, 1077, 726, 1081, 730, 734, 1085] (by decide +kernel) (by decide +kernel) w h).1
theorem inlX0 : ∀ w ∈ wsX00, w ∈ wsL_law := fun _ h => List.mem_append_left _ (List.mem_append_right _ h)
theorem inX0 : ∀ w ∈ wsX00, w ∈ lw_tbl := fun w h => wsL_law_in w (inlX0 w h)
theorem inlX1 : ∀ w ∈ wsX10, w ∈ wsL_law := fun _ h => List.mem_append_left _ (List.mem_append_left _ (List.mem_append_left _ (List.mem_append_left _ (List.mem_append_left _ (List.mem_append_right _ h)))))
theorem inX1 : ∀ w ∈ wsX10, w ∈ lw_tbl := fun w h => wsL_law_in w (inlX1 w h)
theorem inlX2 : ∀ w ∈ wsX20, w ∈ wsL_law := fun _ h => List.mem_append_left _ (List.mem_append_left _ (List.mem_append_left _ (List.mem_append_left _ (List.mem_append_right _ h))))
theorem inX2 : ∀ w ∈ wsX20, w ∈ lw_tbl := fun w h => wsL_law_in w (inlX2 w h)
theorem inlX3 : ∀ w ∈ wsX30, w ∈ wsL_law := fun _ h => List.mem_append_left _ (List.mem_append_left _ (List.mem_append_left _ (List.mem_append_right _ h)))
theorem inX3 : ∀ w ∈ wsX30, w ∈ lw_tbl := fun w h => wsL_law_in w (inlX3 w h)
theorem inlX4 : ∀ w ∈ wsX40, w ∈ wsL_law := fun _ h => List.mem_append_left _ (List.mem_append_left _ (List.mem_append_right _ h))
theorem inX4 : ∀ w ∈ wsX40, w ∈ lw_tbl := fun w h => wsL_law_in w (inlX4 w h)
theorem inX5 : ∀ w ∈ wsX50, w ∈ lw_tbl := by decide +kernel
theorem inlX6 : ∀ w ∈ wsX60, w ∈ wsL_law := fun _ h => List.mem_append_left _ (List.mem_append_left _ (List.mem_append_left _ (List.mem_append_left _ (List.mem_append_left _ (List.mem_append_left _ (List.mem_append_right _ h))))))
theorem inX6 : ∀ w ∈ wsX60, w ∈ lw_tbl := fun w h => wsL_law_in w (inlX6 w h)
theorem inlX7 : ∀ w ∈ wsX70, w ∈ wsL_law := fun _ h => List.mem_append_left _ (List.mem_append_left _ (List.mem_append_left _ (List.mem_append_left _ (List.mem_append_left _ (List.mem_append_left _ (List.mem_append_left _ (List.mem_append_left _ (List.mem_append_right _ h))))))))
theorem inX7 : ∀ w ∈ wsX70, w ∈ lw_tbl := fun w h => wsL_law_in w (inlX7 w h)
theorem inlX8 : ∀ w ∈ wsX80, w ∈ wsL_law := fun _ h => List.mem_append_left _ (List.mem_append_left _ (List.mem_append_left _ (List.mem_append_left _ (List.mem_append_left _ (List.mem_append_left _ (List.mem_append_left _ (List.mem_append_right _ h)))))))
theorem inX8 : ∀ w ∈ wsX80, w ∈ lw_tbl := fun w h => wsL_law_in w (inlX8 w h)
theorem inJ6 : ∀ w ∈ wsJ60, w ∈ lw_tbl := by decide +kernel
theorem inJ9 : ∀ w ∈ wsJ90, w ∈ lw_tbl := by decide +kernel
theorem inJ10 : ∀ w ∈ wsJ100, w ∈ lw_tbl := by decide +kernel
abbrev vwCl : List vw_C := [(RX0, TX0, 3), (RX1, TX1, 3), (RX2, TX2, 5), (RX3, TX3, 4), (RX4, TX4, 4), (RX6, TX6, 2), (RX7, TX7, 9), (RX8, TX8, 23)]

