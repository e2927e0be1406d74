section
-- ===== PART A: goes FIRST, ahead of the names: the tables' words, and 'selects' of the private methods out of them =====
/-- a private method of a class that the tables say can be made, by its rows of tables_1 -/
def lw_okq (q : MethodName × Nat) : Prop := (q.1.cls ≠ "java/lang/invoke/MethodHandle" ∧ q.1.cls ≠ "java/lang/invoke/VarHandle") ∧ Cond.instantiable q.1.cls q.2 ∈ tables_1 ∧ Cond.privateMethod q.1 ∈ tables_1 ∧ Cond.instanceMethod q.1 ∈ tables_1
theorem lw_p0 : lw_okq (⟨"ByHand", "faulty", "(I)I"⟩, 9) := ⟨⟨by decide +kernel, by decide +kernel⟩, List.mem_of_getElem? (i := 14) (by decide +kernel), List.mem_of_getElem? (i := 187) (by decide +kernel), List.mem_of_getElem? (i := 188) (by decide +kernel)⟩
theorem lw_p1 : lw_okq (⟨"ByHand$Hands", "timesOf", "(I)I"⟩, 3) := ⟨⟨by decide +kernel, by decide +kernel⟩, List.mem_of_getElem? (i := 36) (by decide +kernel), List.mem_of_getElem? (i := 287) (by decide +kernel), List.mem_of_getElem? (i := 288) (by decide +kernel)⟩
theorem lw_p2 : lw_okq (⟨"ByHand$Telling", "has", "(I)Z"⟩, 4) := ⟨⟨by decide +kernel, by decide +kernel⟩, List.mem_of_getElem? (i := 96) (by decide +kernel), List.mem_of_getElem? (i := 316) (by decide +kernel), List.mem_of_getElem? (i := 317) (by decide +kernel)⟩
theorem lw_p3 : lw_okq (⟨"ByHand$Telling", "alikeToAny", "(I)I"⟩, 4) := ⟨⟨by decide +kernel, by decide +kernel⟩, List.mem_of_getElem? (i := 96) (by decide +kernel), List.mem_of_getElem? (i := 344) (by decide +kernel), List.mem_of_getElem? (i := 345) (by decide +kernel)⟩
theorem lw_p4 : lw_okq (⟨"ByHand$Telling", "leastIn", "(I)I"⟩, 4) := ⟨⟨by decide +kernel, by decide +kernel⟩, List.mem_of_getElem? (i := 96) (by decide +kernel), List.mem_of_getElem? (i := 357) (by decide +kernel), List.mem_of_getElem? (i := 358) (by decide +kernel)⟩
theorem lw_p5 : lw_okq (⟨"ByHand", "swappedUp", "(I)I"⟩, 9) := ⟨⟨by decide +kernel, by decide +kernel⟩, List.mem_of_getElem? (i := 14) (by decide +kernel), List.mem_of_getElem? (i := 370) (by decide +kernel), List.mem_of_getElem? (i := 371) (by decide +kernel)⟩
theorem lw_p6 : lw_okq (⟨"ByHand$Sayings", "has", "(I)Z"⟩, 5) := ⟨⟨by decide +kernel, by decide +kernel⟩, List.mem_of_getElem? (i := 52) (by decide +kernel), List.mem_of_getElem? (i := 413) (by decide +kernel), List.mem_of_getElem? (i := 414) (by decide +kernel)⟩
theorem lw_p7 : lw_okq (⟨"ByHand", "falseByWeight", "(II)I"⟩, 9) := ⟨⟨by decide +kernel, by decide +kernel⟩, List.mem_of_getElem? (i := 14) (by decide +kernel), List.mem_of_getElem? (i := 431) (by decide +kernel), List.mem_of_getElem? (i := 432) (by decide +kernel)⟩
theorem lw_p8 : lw_okq (⟨"ByHand$Telling", "allThings", "()I"⟩, 4) := ⟨⟨by decide +kernel, by decide +kernel⟩, List.mem_of_getElem? (i := 96) (by decide +kernel), List.mem_of_getElem? (i := 447) (by decide +kernel), List.mem_of_getElem? (i := 448) (by decide +kernel)⟩
theorem lw_p9 : lw_okq (⟨"ByHand$Telling", "fittingBehind", "(I)I"⟩, 4) := ⟨⟨by decide +kernel, by decide +kernel⟩, List.mem_of_getElem? (i := 96) (by decide +kernel), List.mem_of_getElem? (i := 455) (by decide +kernel), List.mem_of_getElem? (i := 456) (by decide +kernel)⟩
theorem lw_p10 : lw_okq (⟨"ByHand$Telling", "heavierThanAny", "(I)I"⟩, 4) := ⟨⟨by decide +kernel, by decide +kernel⟩, List.mem_of_getElem? (i := 96) (by decide +kernel), List.mem_of_getElem? (i := 467) (by decide +kernel), List.mem_of_getElem? (i := 468) (by decide +kernel)⟩
theorem lw_p11 : lw_okq (⟨"ByHand$Telling", "areAllAlike", "(I)Z"⟩, 4) := ⟨⟨by decide +kernel, by decide +kernel⟩, List.mem_of_getElem? (i := 96) (by decide +kernel), List.mem_of_getElem? (i := 485) (by decide +kernel), List.mem_of_getElem? (i := 486) (by decide +kernel)⟩
theorem lw_p12 : lw_okq (⟨"ByHand", "takeHandRow", "(IIII)I"⟩, 9) := ⟨⟨by decide +kernel, by decide +kernel⟩, List.mem_of_getElem? (i := 14) (by decide +kernel), List.mem_of_getElem? (i := 501) (by decide +kernel), List.mem_of_getElem? (i := 502) (by decide +kernel)⟩
theorem lw_p13 : lw_okq (⟨"ByHand$HandRow", "sortRow", "()V"⟩, 3) := ⟨⟨by decide +kernel, by decide +kernel⟩, List.mem_of_getElem? (i := 115) (by decide +kernel), List.mem_of_getElem? (i := 538) (by decide +kernel), List.mem_of_getElem? (i := 539) (by decide +kernel)⟩
theorem lw_p14 : lw_okq (⟨"ByHand$HandRow", "exchange", "(II)V"⟩, 3) := ⟨⟨by decide +kernel, by decide +kernel⟩, List.mem_of_getElem? (i := 115) (by decide +kernel), List.mem_of_getElem? (i := 542) (by decide +kernel), List.mem_of_getElem? (i := 543) (by decide +kernel)⟩
theorem lw_p15 : lw_okq (⟨"ByHand$HandRow", "spread", "(LByHand$Hands;I)I"⟩, 3) := ⟨⟨by decide +kernel, by decide +kernel⟩, List.mem_of_getElem? (i := 115) (by decide +kernel), List.mem_of_getElem? (i := 546) (by decide +kernel), List.mem_of_getElem? (i := 547) (by decide +kernel)⟩
def lw_privs_1 : List (MethodName × Nat) := [(⟨"ByHand", "faulty", "(I)I"⟩, 9), (⟨"ByHand$Hands", "timesOf", "(I)I"⟩, 3), (⟨"ByHand$Telling", "has", "(I)Z"⟩, 4), (⟨"ByHand$Telling", "alikeToAny", "(I)I"⟩, 4), (⟨"ByHand$Telling", "leastIn", "(I)I"⟩, 4), (⟨"ByHand", "swappedUp", "(I)I"⟩, 9), (⟨"ByHand$Sayings", "has", "(I)Z"⟩, 5), (⟨"ByHand", "falseByWeight", "(II)I"⟩, 9), (⟨"ByHand$Telling", "allThings", "()I"⟩, 4), (⟨"ByHand$Telling", "fittingBehind", "(I)I"⟩, 4), (⟨"ByHand$Telling", "heavierThanAny", "(I)I"⟩, 4), (⟨"ByHand$Telling", "areAllAlike", "(I)Z"⟩, 4), (⟨"ByHand", "takeHandRow", "(IIII)I"⟩, 9), (⟨"ByHand$HandRow", "sortRow", "()V"⟩, 3), (⟨"ByHand$HandRow", "exchange", "(II)V"⟩, 3), (⟨"ByHand$HandRow", "spread", "(LByHand$Hands;I)I"⟩, 3)]
theorem lw_r1 : ∀ q ∈ lw_privs_1, lw_okq q := List.forall_mem_cons.mpr ⟨lw_p0, List.forall_mem_cons.mpr ⟨lw_p1, List.forall_mem_cons.mpr ⟨lw_p2, List.forall_mem_cons.mpr ⟨lw_p3, List.forall_mem_cons.mpr ⟨lw_p4, List.forall_mem_cons.mpr ⟨lw_p5, List.forall_mem_cons.mpr ⟨lw_p6, List.forall_mem_cons.mpr ⟨lw_p7, List.forall_mem_cons.mpr ⟨lw_p8, List.forall_mem_cons.mpr ⟨lw_p9, List.forall_mem_cons.mpr ⟨lw_p10, List.forall_mem_cons.mpr ⟨lw_p11, List.forall_mem_cons.mpr ⟨lw_p12, List.forall_mem_cons.mpr ⟨lw_p13, List.forall_mem_cons.mpr ⟨lw_p14, List.forall_mem_cons.mpr ⟨lw_p15, fun _ h => absurd h List.not_mem_nil⟩⟩⟩⟩⟩⟩⟩⟩⟩⟩⟩⟩⟩⟩⟩⟩
theorem lw_p16 : lw_okq (⟨"ByHand$HandRow", "keepAsBest", "()V"⟩, 3) := ⟨⟨by decide +kernel, by decide +kernel⟩, List.mem_of_getElem? (i := 115) (by decide +kernel), List.mem_of_getElem? (i := 552) (by decide +kernel), List.mem_of_getElem? (i := 553) (by decide +kernel)⟩
theorem lw_p17 : lw_okq (⟨"ByHand$HandRow", "toNextOrder", "()Z"⟩, 3) := ⟨⟨by decide +kernel, by decide +kernel⟩, List.mem_of_getElem? (i := 115) (by decide +kernel), List.mem_of_getElem? (i := 556) (by decide +kernel), List.mem_of_getElem? (i := 557) (by decide +kernel)⟩
theorem lw_p18 : lw_okq (⟨"ByHand", "smithBody", "(I)I"⟩, 9) := ⟨⟨by decide +kernel, by decide +kernel⟩, List.mem_of_getElem? (i := 14) (by decide +kernel), List.mem_of_getElem? (i := 635) (by decide +kernel), List.mem_of_getElem? (i := 636) (by decide +kernel)⟩
theorem lw_p19 : lw_okq (⟨"ByHand", "leaveTrace", "(I)V"⟩, 9) := ⟨⟨by decide +kernel, by decide +kernel⟩, List.mem_of_getElem? (i := 14) (by decide +kernel), List.mem_of_getElem? (i := 639) (by decide +kernel), List.mem_of_getElem? (i := 640) (by decide +kernel)⟩
theorem lw_p20 : lw_okq (⟨"ByHand", "steadyBody", "(I)I"⟩, 9) := ⟨⟨by decide +kernel, by decide +kernel⟩, List.mem_of_getElem? (i := 14) (by decide +kernel), List.mem_of_getElem? (i := 643) (by decide +kernel), List.mem_of_getElem? (i := 644) (by decide +kernel)⟩
theorem lw_p21 : lw_okq (⟨"ByHand", "handBody", "(I)I"⟩, 9) := ⟨⟨by decide +kernel, by decide +kernel⟩, List.mem_of_getElem? (i := 14) (by decide +kernel), List.mem_of_getElem? (i := 647) (by decide +kernel), List.mem_of_getElem? (i := 648) (by decide +kernel)⟩
theorem lw_p22 : lw_okq (⟨"ByHand", "smithsOwnBody", "()I"⟩, 9) := ⟨⟨by decide +kernel, by decide +kernel⟩, List.mem_of_getElem? (i := 14) (by decide +kernel), List.mem_of_getElem? (i := 655) (by decide +kernel), List.mem_of_getElem? (i := 656) (by decide +kernel)⟩
theorem lw_p23 : lw_okq (⟨"ByHand", "lentBody", "(I)I"⟩, 9) := ⟨⟨by decide +kernel, by decide +kernel⟩, List.mem_of_getElem? (i := 14) (by decide +kernel), List.mem_of_getElem? (i := 659) (by decide +kernel), List.mem_of_getElem? (i := 660) (by decide +kernel)⟩
theorem lw_p24 : lw_okq (⟨"ByHandModel", "against", "(IIII)I"⟩, 23) := ⟨⟨by decide +kernel, by decide +kernel⟩, List.mem_of_getElem? (i := 683) (by decide +kernel), List.mem_of_getElem? (i := 772) (by decide +kernel), List.mem_of_getElem? (i := 773) (by decide +kernel)⟩
theorem lw_p25 : lw_okq (⟨"ByHandModel", "fails", "(I)I"⟩, 23) := ⟨⟨by decide +kernel, by decide +kernel⟩, List.mem_of_getElem? (i := 683) (by decide +kernel), List.mem_of_getElem? (i := 776) (by decide +kernel), List.mem_of_getElem? (i := 777) (by decide +kernel)⟩
theorem lw_p26 : lw_okq (⟨"ByHandModel", "readMarket", "(I)Z"⟩, 23) := ⟨⟨by decide +kernel, by decide +kernel⟩, List.mem_of_getElem? (i := 683) (by decide +kernel), List.mem_of_getElem? (i := 780) (by decide +kernel), List.mem_of_getElem? (i := 781) (by decide +kernel)⟩
theorem lw_p27 : lw_okq (⟨"ByHandModel", "isThing", "(I)Z"⟩, 23) := ⟨⟨by decide +kernel, by decide +kernel⟩, List.mem_of_getElem? (i := 683) (by decide +kernel), List.mem_of_getElem? (i := 788) (by decide +kernel), List.mem_of_getElem? (i := 789) (by decide +kernel)⟩
theorem lw_p28 : lw_okq (⟨"ByHandModel", "isHand", "(I)Z"⟩, 23) := ⟨⟨by decide +kernel, by decide +kernel⟩, List.mem_of_getElem? (i := 683) (by decide +kernel), List.mem_of_getElem? (i := 807) (by decide +kernel), List.mem_of_getElem? (i := 808) (by decide +kernel)⟩
theorem lw_p29 : lw_okq (⟨"ByHandModel", "isTold", "(III)Z"⟩, 23) := ⟨⟨by decide +kernel, by decide +kernel⟩, List.mem_of_getElem? (i := 683) (by decide +kernel), List.mem_of_getElem? (i := 815) (by decide +kernel), List.mem_of_getElem? (i := 816) (by decide +kernel)⟩
theorem lw_p30 : lw_okq (⟨"ByHandModel", "times", "(I)I"⟩, 23) := ⟨⟨by decide +kernel, by decide +kernel⟩, List.mem_of_getElem? (i := 683) (by decide +kernel), List.mem_of_getElem? (i := 819) (by decide +kernel), List.mem_of_getElem? (i := 820) (by decide +kernel)⟩
theorem lw_p31 : lw_okq (⟨"ByHandModel", "alikeTo", "(II)I"⟩, 23) := ⟨⟨by decide +kernel, by decide +kernel⟩, List.mem_of_getElem? (i := 683) (by decide +kernel), List.mem_of_getElem? (i := 827) (by decide +kernel), List.mem_of_getElem? (i := 828) (by decide +kernel)⟩
def lw_privs_2 : List (MethodName × Nat) := [(⟨"ByHand$HandRow", "keepAsBest", "()V"⟩, 3), (⟨"ByHand$HandRow", "toNextOrder", "()Z"⟩, 3), (⟨"ByHand", "smithBody", "(I)I"⟩, 9), (⟨"ByHand", "leaveTrace", "(I)V"⟩, 9), (⟨"ByHand", "steadyBody", "(I)I"⟩, 9), (⟨"ByHand", "handBody", "(I)I"⟩, 9), (⟨"ByHand", "smithsOwnBody", "()I"⟩, 9), (⟨"ByHand", "lentBody", "(I)I"⟩, 9), (⟨"ByHandModel", "against", "(IIII)I"⟩, 23), (⟨"ByHandModel", "fails", "(I)I"⟩, 23), (⟨"ByHandModel", "readMarket", "(I)Z"⟩, 23), (⟨"ByHandModel", "isThing", "(I)Z"⟩, 23), (⟨"ByHandModel", "isHand", "(I)Z"⟩, 23), (⟨"ByHandModel", "isTold", "(III)Z"⟩, 23), (⟨"ByHandModel", "times", "(I)I"⟩, 23), (⟨"ByHandModel", "alikeTo", "(II)I"⟩, 23)]
theorem lw_r2 : ∀ q ∈ lw_privs_2, lw_okq q := List.forall_mem_cons.mpr ⟨lw_p16, List.forall_mem_cons.mpr ⟨lw_p17, List.forall_mem_cons.mpr ⟨lw_p18, List.forall_mem_cons.mpr ⟨lw_p19, List.forall_mem_cons.mpr ⟨lw_p20, List.forall_mem_cons.mpr ⟨lw_p21, List.forall_mem_cons.mpr ⟨lw_p22, List.forall_mem_cons.mpr ⟨lw_p23, List.forall_mem_cons.mpr ⟨lw_p24, List.forall_mem_cons.mpr ⟨lw_p25, List.forall_mem_cons.mpr ⟨lw_p26, List.forall_mem_cons.mpr ⟨lw_p27, List.forall_mem_cons.mpr ⟨lw_p28, List.forall_mem_cons.mpr ⟨lw_p29, List.forall_mem_cons.mpr ⟨lw_p30, List.forall_mem_cons.mpr ⟨lw_p31, fun _ h => absurd h List.not_mem_nil⟩⟩⟩⟩⟩⟩⟩⟩⟩⟩⟩⟩⟩⟩⟩⟩
theorem lw_p32 : lw_okq (⟨"ByHandModel", "areAlike", "(III)Z"⟩, 23) := ⟨⟨by decide +kernel, by decide +kernel⟩, List.mem_of_getElem? (i := 683) (by decide +kernel), List.mem_of_getElem? (i := 831) (by decide +kernel), List.mem_of_getElem? (i := 832) (by decide +kernel)⟩
theorem lw_p33 : lw_okq (⟨"ByHandModel", "tellsThem", "(III)Z"⟩, 23) := ⟨⟨by decide +kernel, by decide +kernel⟩, List.mem_of_getElem? (i := 683) (by decide +kernel), List.mem_of_getElem? (i := 835) (by decide +kernel), List.mem_of_getElem? (i := 836) (by decide +kernel)⟩
theorem lw_p34 : lw_okq (⟨"ByHandModel", "findFar", "(II)V"⟩, 23) := ⟨⟨by decide +kernel, by decide +kernel⟩, List.mem_of_getElem? (i := 683) (by decide +kernel), List.mem_of_getElem? (i := 847) (by decide +kernel), List.mem_of_getElem? (i := 848) (by decide +kernel)⟩
theorem lw_p35 : lw_okq (⟨"ByHandModel", "nextOf", "(II)I"⟩, 23) := ⟨⟨by decide +kernel, by decide +kernel⟩, List.mem_of_getElem? (i := 683) (by decide +kernel), List.mem_of_getElem? (i := 851) (by decide +kernel), List.mem_of_getElem? (i := 852) (by decide +kernel)⟩
theorem lw_p36 : lw_okq (⟨"ByHandModel", "isGot", "(IIII)Z"⟩, 23) := ⟨⟨by decide +kernel, by decide +kernel⟩, List.mem_of_getElem? (i := 683) (by decide +kernel), List.mem_of_getElem? (i := 863) (by decide +kernel), List.mem_of_getElem? (i := 864) (by decide +kernel)⟩
theorem lw_p37 : lw_okq (⟨"ByHandModel", "isSo", "(I)Z"⟩, 23) := ⟨⟨by decide +kernel, by decide +kernel⟩, List.mem_of_getElem? (i := 683) (by decide +kernel), List.mem_of_getElem? (i := 879) (by decide +kernel), List.mem_of_getElem? (i := 880) (by decide +kernel)⟩
theorem lw_p38 : lw_okq (⟨"ByHandModel", "falseOf", "(I)I"⟩, 23) := ⟨⟨by decide +kernel, by decide +kernel⟩, List.mem_of_getElem? (i := 683) (by decide +kernel), List.mem_of_getElem? (i := 887) (by decide +kernel), List.mem_of_getElem? (i := 888) (by decide +kernel)⟩
theorem lw_p39 : lw_okq (⟨"ByHandModel", "inFirstRow", "(II)I"⟩, 23) := ⟨⟨by decide +kernel, by decide +kernel⟩, List.mem_of_getElem? (i := 683) (by decide +kernel), List.mem_of_getElem? (i := 899) (by decide +kernel), List.mem_of_getElem? (i := 900) (by decide +kernel)⟩
theorem lw_p40 : lw_okq (⟨"ByHandModel", "mayStand", "(III)Z"⟩, 23) := ⟨⟨by decide +kernel, by decide +kernel⟩, List.mem_of_getElem? (i := 683) (by decide +kernel), List.mem_of_getElem? (i := 903) (by decide +kernel), List.mem_of_getElem? (i := 904) (by decide +kernel)⟩
theorem lw_p41 : lw_okq (⟨"ByHandModel", "isCrowd", "(II)Z"⟩, 23) := ⟨⟨by decide +kernel, by decide +kernel⟩, List.mem_of_getElem? (i := 683) (by decide +kernel), List.mem_of_getElem? (i := 918) (by decide +kernel), List.mem_of_getElem? (i := 919) (by decide +kernel)⟩
theorem lw_p42 : lw_okq (⟨"ByHandModel", "layRow", "(III)I"⟩, 23) := ⟨⟨by decide +kernel, by decide +kernel⟩, List.mem_of_getElem? (i := 683) (by decide +kernel), List.mem_of_getElem? (i := 930) (by decide +kernel), List.mem_of_getElem? (i := 931) (by decide +kernel)⟩
theorem lw_p43 : lw_okq (⟨"ByHandModel", "copied", "(III)I"⟩, 23) := ⟨⟨by decide +kernel, by decide +kernel⟩, List.mem_of_getElem? (i := 683) (by decide +kernel), List.mem_of_getElem? (i := 934) (by decide +kernel), List.mem_of_getElem? (i := 935) (by decide +kernel)⟩
theorem lw_p44 : lw_okq (⟨"ByHandModel", "greatest", "(II)I"⟩, 23) := ⟨⟨by decide +kernel, by decide +kernel⟩, List.mem_of_getElem? (i := 683) (by decide +kernel), List.mem_of_getElem? (i := 938) (by decide +kernel), List.mem_of_getElem? (i := 939) (by decide +kernel)⟩
theorem lw_p45 : lw_okq (⟨"ByHandModel", "least", "(II)I"⟩, 23) := ⟨⟨by decide +kernel, by decide +kernel⟩, List.mem_of_getElem? (i := 683) (by decide +kernel), List.mem_of_getElem? (i := 942) (by decide +kernel), List.mem_of_getElem? (i := 943) (by decide +kernel)⟩
theorem lw_p46 : lw_okq (⟨"ByHandModel", "findBestRow", "(II)I"⟩, 23) := ⟨⟨by decide +kernel, by decide +kernel⟩, List.mem_of_getElem? (i := 683) (by decide +kernel), List.mem_of_getElem? (i := 950) (by decide +kernel), List.mem_of_getElem? (i := 951) (by decide +kernel)⟩
theorem lw_p47 : lw_okq (⟨"ByHandModel", "exchange", "(II)V"⟩, 23) := ⟨⟨by decide +kernel, by decide +kernel⟩, List.mem_of_getElem? (i := 683) (by decide +kernel), List.mem_of_getElem? (i := 954) (by decide +kernel), List.mem_of_getElem? (i := 955) (by decide +kernel)⟩
def lw_privs_3 : List (MethodName × Nat) := [(⟨"ByHandModel", "areAlike", "(III)Z"⟩, 23), (⟨"ByHandModel", "tellsThem", "(III)Z"⟩, 23), (⟨"ByHandModel", "findFar", "(II)V"⟩, 23), (⟨"ByHandModel", "nextOf", "(II)I"⟩, 23), (⟨"ByHandModel", "isGot", "(IIII)Z"⟩, 23), (⟨"ByHandModel", "isSo", "(I)Z"⟩, 23), (⟨"ByHandModel", "falseOf", "(I)I"⟩, 23), (⟨"ByHandModel", "inFirstRow", "(II)I"⟩, 23), (⟨"ByHandModel", "mayStand", "(III)Z"⟩, 23), (⟨"ByHandModel", "isCrowd", "(II)Z"⟩, 23), (⟨"ByHandModel", "layRow", "(III)I"⟩, 23), (⟨"ByHandModel", "copied", "(III)I"⟩, 23), (⟨"ByHandModel", "greatest", "(II)I"⟩, 23), (⟨"ByHandModel", "least", "(II)I"⟩, 23), (⟨"ByHandModel", "findBestRow", "(II)I"⟩, 23), (⟨"ByHandModel", "exchange", "(II)V"⟩, 23)]
theorem lw_r3 : ∀ q ∈ lw_privs_3, lw_okq q := List.forall_mem_cons.mpr ⟨lw_p32, List.forall_mem_cons.mpr ⟨lw_p33, List.forall_mem_cons.mpr ⟨lw_p34, List.forall_mem_cons.mpr ⟨lw_p35, List.forall_mem_cons.mpr ⟨lw_p36, List.forall_mem_cons.mpr ⟨lw_p37, List.forall_mem_cons.mpr ⟨lw_p38, List.forall_mem_cons.mpr ⟨lw_p39, List.forall_mem_cons.mpr ⟨lw_p40, List.forall_mem_cons.mpr ⟨lw_p41, List.forall_mem_cons.mpr ⟨lw_p42, List.forall_mem_cons.mpr ⟨lw_p43, List.forall_mem_cons.mpr ⟨lw_p44, List.forall_mem_cons.mpr ⟨lw_p45, List.forall_mem_cons.mpr ⟨lw_p46, List.forall_mem_cons.mpr ⟨lw_p47, fun _ h => absurd h List.not_mem_nil⟩⟩⟩⟩⟩⟩⟩⟩⟩⟩⟩⟩⟩⟩⟩⟩
theorem lw_p48 : lw_okq (⟨"ByHandModel", "nextRow", "(I)Z"⟩, 23) := ⟨⟨by decide +kernel, by decide +kernel⟩, List.mem_of_getElem? (i := 683) (by decide +kernel), List.mem_of_getElem? (i := 958) (by decide +kernel), List.mem_of_getElem? (i := 959) (by decide +kernel)⟩
theorem lw_p49 : lw_okq (⟨"ByHandModel", "areEven", "(III)Z"⟩, 23) := ⟨⟨by decide +kernel, by decide +kernel⟩, List.mem_of_getElem? (i := 683) (by decide +kernel), List.mem_of_getElem? (i := 966) (by decide +kernel), List.mem_of_getElem? (i := 967) (by decide +kernel)⟩
theorem lw_p50 : lw_okq (⟨"ByHandModel", "sumOf", "(I)I"⟩, 23) := ⟨⟨by decide +kernel, by decide +kernel⟩, List.mem_of_getElem? (i := 683) (by decide +kernel), List.mem_of_getElem? (i := 970) (by decide +kernel), List.mem_of_getElem? (i := 971) (by decide +kernel)⟩
theorem lw_p51 : lw_okq (⟨"ByHandModel", "lost", "(I)J"⟩, 23) := ⟨⟨by decide +kernel, by decide +kernel⟩, List.mem_of_getElem? (i := 683) (by decide +kernel), List.mem_of_getElem? (i := 998) (by decide +kernel), List.mem_of_getElem? (i := 999) (by decide +kernel)⟩
theorem lw_p52 : lw_okq (⟨"ByHandModel", "begins", "(I)V"⟩, 23) := ⟨⟨by decide +kernel, by decide +kernel⟩, List.mem_of_getElem? (i := 683) (by decide +kernel), List.mem_of_getElem? (i := 1010) (by decide +kernel), List.mem_of_getElem? (i := 1011) (by decide +kernel)⟩
def lw_privs_4 : List (MethodName × Nat) := [(⟨"ByHandModel", "nextRow", "(I)Z"⟩, 23), (⟨"ByHandModel", "areEven", "(III)Z"⟩, 23), (⟨"ByHandModel", "sumOf", "(I)I"⟩, 23), (⟨"ByHandModel", "lost", "(I)J"⟩, 23), (⟨"ByHandModel", "begins", "(I)V"⟩, 23)]
theorem lw_r4 : ∀ q ∈ lw_privs_4, lw_okq q := List.forall_mem_cons.mpr ⟨lw_p48, List.forall_mem_cons.mpr ⟨lw_p49, List.forall_mem_cons.mpr ⟨lw_p50, List.forall_mem_cons.mpr ⟨lw_p51, List.forall_mem_cons.mpr ⟨lw_p52, fun _ h => absurd h List.not_mem_nil⟩⟩⟩⟩⟩
def lw_privs : List (MethodName × Nat) := lw_privs_1 ++ (lw_privs_2 ++ (lw_privs_3 ++ (lw_privs_4)))
def lw_tbl : List Cond := k2_sels lw_privs ++ tables_1
theorem lw_privs_ok : ∀ q ∈ lw_privs, lw_okq q := by
  show ∀ q ∈ lw_privs_1 ++ (lw_privs_2 ++ (lw_privs_3 ++ (lw_privs_4))), lw_okq q
  exact List.forall_mem_append.mpr ⟨lw_r1, List.forall_mem_append.mpr ⟨lw_r2, List.forall_mem_append.mpr ⟨lw_r3, lw_r4⟩⟩⟩
-- ===== end of PART A; then your names; then what follows =====
def RX0 : String := "ByHand$HandRow"
def TX0 : u_T := fun k => match k with
  | 0 => ("ByHand$HandRow", "count", "I", false)
  | 1 => ("ByHand$HandRow", "row", "[I", true)
  | _ => ("ByHand$HandRow", "best", "[I", true)
def tyX0 : Nat → FieldType := fun k => match k with
  | 0 => .int
  | 1 => .array .int
  | _ => .array .int
theorem nmX0 : ∀ a, a < 3 → ∀ b, b < 3 → a ≠ b → (TX0 a).2.1 ≠ (TX0 b).2.1 := by decide +kernel
theorem tyX0_ok : ∀ k, k < 3 → parseFieldDescriptor (TX0 k).2.2.1 = some (tyX0 k) := by decide +kernel
abbrev cX0_init : ByteArray := prog_2_method_1_code
def yX0_init : MethodName := ⟨RX0, "<init>", "()V"⟩
abbrev cX0_clear : ByteArray := prog_2_method_2_code
def yX0_clear : MethodName := ⟨RX0, "clear", "()V"⟩
abbrev cX0_add : ByteArray := prog_2_method_3_code
def yX0_add : MethodName := ⟨RX0, "add", "(I)V"⟩
abbrev cX0_greatestCopy : ByteArray := prog_2_method_4_code
def yX0_greatestCopy : MethodName := ⟨RX0, "greatestCopy", "(LByHand$Hands;I)I"⟩
abbrev cX0_leastCopy : ByteArray := prog_2_method_5_code
def yX0_leastCopy : MethodName := ⟨RX0, "leastCopy", "(LByHand$Hands;I)I"⟩
abbrev cX0_spread : ByteArray := prog_2_method_6_code
def yX0_spread : MethodName := ⟨RX0, "spread", "(LByHand$Hands;I)I"⟩
abbrev cX0_findBest : ByteArray := prog_2_method_7_code
def yX0_findBest : MethodName := ⟨RX0, "findBest", "(LByHand$Hands;I)I"⟩
abbrev cX0_inBest : ByteArray := prog_2_method_8_code
def yX0_inBest : MethodName := ⟨RX0, "inBest", "(I)I"⟩
abbrev cX0_keepAsBest : ByteArray := prog_2_method_9_code
def yX0_keepAsBest : MethodName := ⟨RX0, "keepAsBest", "()V"⟩
abbrev cX0_sortRow : ByteArray := prog_2_method_10_code
def yX0_sortRow : MethodName := ⟨RX0, "sortRow", "()V"⟩
abbrev cX0_toNextOrder : ByteArray := prog_2_method_11_code
def yX0_toNextOrder : MethodName := ⟨RX0, "toNextOrder", "()Z"⟩
abbrev cX0_exchange : ByteArray := prog_2_method_12_code
def yX0_exchange : MethodName := ⟨RX0, "exchange", "(II)V"⟩
def RX1 : String := "ByHand$Hands"
def TX1 : u_T := fun k => match k with
  | 0 => ("ByHand$Hands", "count", "I", false)
  | 1 => ("ByHand$Hands", "kinds", "[I", true)
  | _ => ("ByHand$Hands", "parts", "[I", true)
def tyX1 : Nat → FieldType := fun k => match k with
  | 0 => .int
  | 1 => .array .int
  | _ => .array .int
theorem nmX1 : ∀ a, a < 3 → ∀ b, b < 3 → a ≠ b → (TX1 a).2.1 ≠ (TX1 b).2.1 := by decide +kernel
theorem tyX1_ok : ∀ k, k < 3 → parseFieldDescriptor (TX1 k).2.2.1 = some (tyX1 k) := by decide +kernel
abbrev cX1_init : ByteArray := prog_3_method_1_code
def yX1_init : MethodName := ⟨RX1, "<init>", "()V"⟩
abbrev cX1_count : ByteArray := prog_3_method_2_code
def yX1_count : MethodName := ⟨RX1, "count", "()I"⟩
abbrev cX1_has : ByteArray := prog_3_method_3_code
def yX1_has : MethodName := ⟨RX1, "has", "(I)Z"⟩
abbrev cX1_kindOf : ByteArray := prog_3_method_4_code
def yX1_kindOf : MethodName := ⟨RX1, "kindOf", "(I)I"⟩
abbrev cX1_partOf : ByteArray := prog_3_method_5_code
def yX1_partOf : MethodName := ⟨RX1, "partOf", "(I)I"⟩
abbrev cX1_clear : ByteArray := prog_3_method_6_code
def yX1_clear : MethodName := ⟨RX1, "clear", "()V"⟩
abbrev cX1_add : ByteArray := prog_3_method_7_code
def yX1_add : MethodName := ⟨RX1, "add", "(II)I"⟩
abbrev cX1_timesOf : ByteArray := prog_3_method_8_code
def yX1_timesOf : MethodName := ⟨RX1, "timesOf", "(I)I"⟩
abbrev cX1_feelsHeavier : ByteArray := prog_3_method_9_code
def yX1_feelsHeavier : MethodName := ⟨RX1, "feelsHeavier", "(III)Z"⟩
abbrev cX1_feelsAlike : ByteArray := prog_3_method_10_code
def yX1_feelsAlike : MethodName := ⟨RX1, "feelsAlike", "(III)Z"⟩
abbrev cX1_greatestUntold : ByteArray := prog_3_method_11_code
def yX1_greatestUntold : MethodName := ⟨RX1, "greatestUntold", "(II)I"⟩
abbrev cX1_leastUntold : ByteArray := prog_3_method_12_code
def yX1_leastUntold : MethodName := ⟨RX1, "leastUntold", "(II)I"⟩
def RX2 : String := "ByHand$Sayings"
def TX2 : u_T := fun k => match k with
  | 0 => ("ByHand$Sayings", "count", "I", false)
  | 1 => ("ByHand$Sayings", "sayers", "[I", true)
  | 2 => ("ByHand$Sayings", "firsts", "[I", true)
  | 3 => ("ByHand$Sayings", "seconds", "[I", true)
  | _ => ("ByHand$Sayings", "words", "[I", true)
def tyX2 : Nat → FieldType := fun k => match k with
  | 0 => .int
  | 1 => .array .int
  | 2 => .array .int
  | 3 => .array .int
  | _ => .array .int
theorem nmX2 : ∀ a, a < 5 → ∀ b, b < 5 → a ≠ b → (TX2 a).2.1 ≠ (TX2 b).2.1 := by decide +kernel
theorem tyX2_ok : ∀ k, k < 5 → parseFieldDescriptor (TX2 k).2.2.1 = some (tyX2 k) := by decide +kernel
abbrev cX2_init : ByteArray := prog_4_method_1_code
def yX2_init : MethodName := ⟨RX2, "<init>", "()V"⟩
abbrev cX2_count : ByteArray := prog_4_method_2_code
def yX2_count : MethodName := ⟨RX2, "count", "()I"⟩
abbrev cX2_has : ByteArray := prog_4_method_3_code
def yX2_has : MethodName := ⟨RX2, "has", "(I)Z"⟩
abbrev cX2_firstOf : ByteArray := prog_4_method_4_code
def yX2_firstOf : MethodName := ⟨RX2, "firstOf", "(I)I"⟩
abbrev cX2_secondOf : ByteArray := prog_4_method_5_code
def yX2_secondOf : MethodName := ⟨RX2, "secondOf", "(I)I"⟩
abbrev cX2_clear : ByteArray := prog_4_method_6_code
def yX2_clear : MethodName := ⟨RX2, "clear", "()V"⟩
abbrev cX2_add : ByteArray := prog_4_method_7_code
def yX2_add : MethodName := ⟨RX2, "add", "(IIII)I"⟩
abbrev cX2_takeBack : ByteArray := prog_4_method_8_code
def yX2_takeBack : MethodName := ⟨RX2, "takeBack", "(I)I"⟩
abbrev cX2_isFalse : ByteArray := prog_4_method_9_code
def yX2_isFalse : MethodName := ⟨RX2, "isFalse", "(ILByHand$Hands;II)Z"⟩
def RX3 : String := "ByHand$Sheets"
def TX3 : u_T := fun k => match k with
  | 0 => ("ByHand$Sheets", "filled", "[Z", true)
  | 1 => ("ByHand$Sheets", "sorts", "[I", true)
  | 2 => ("ByHand$Sheets", "lengths", "[I", true)
  | _ => ("ByHand$Sheets", "cells", "[[I", true)
def tyX3 : Nat → FieldType := fun k => match k with
  | 0 => .array .boolean
  | 1 => .array .int
  | 2 => .array .int
  | _ => .array (.array .int)
theorem nmX3 : ∀ a, a < 4 → ∀ b, b < 4 → a ≠ b → (TX3 a).2.1 ≠ (TX3 b).2.1 := by decide +kernel
theorem tyX3_ok : ∀ k, k < 4 → parseFieldDescriptor (TX3 k).2.2.1 = some (tyX3 k) := by decide +kernel
abbrev cX3_init : ByteArray := prog_5_method_1_code
def yX3_init : MethodName := ⟨RX3, "<init>", "()V"⟩
abbrev cX3_has : ByteArray := prog_5_method_2_code
def yX3_has : MethodName := ⟨RX3, "has", "(I)Z"⟩
abbrev cX3_hasRow : ByteArray := prog_5_method_3_code
def yX3_hasRow : MethodName := ⟨RX3, "hasRow", "(I)Z"⟩
abbrev cX3_sortOf : ByteArray := prog_5_method_4_code
def yX3_sortOf : MethodName := ⟨RX3, "sortOf", "(I)I"⟩
abbrev cX3_hasCells : ByteArray := prog_5_method_5_code
def yX3_hasCells : MethodName := ⟨RX3, "hasCells", "(III)Z"⟩
abbrev cX3_faultOfTaking : ByteArray := prog_5_method_6_code
def yX3_faultOfTaking : MethodName := ⟨RX3, "faultOfTaking", "(IIII)I"⟩
abbrev cX3_renew : ByteArray := prog_5_method_7_code
def yX3_renew : MethodName := ⟨RX3, "renew", "(III)V"⟩
abbrev cX3_empty : ByteArray := prog_5_method_8_code
def yX3_empty : MethodName := ⟨RX3, "empty", "(I)Z"⟩
abbrev cX3_cellOf : ByteArray := prog_5_method_9_code
def yX3_cellOf : MethodName := ⟨RX3, "cellOf", "(II)I"⟩
abbrev cX3_setCell : ByteArray := prog_5_method_10_code
def yX3_setCell : MethodName := ⟨RX3, "setCell", "(III)V"⟩
abbrev cX3_cut : ByteArray := prog_5_method_11_code
def yX3_cut : MethodName := ⟨RX3, "cut", "(II)I"⟩
abbrev cX3_copyCells : ByteArray := prog_5_method_12_code
def yX3_copyCells : MethodName := ⟨RX3, "copyCells", "(IIIII)V"⟩
def RX4 : String := "ByHand$Telling"
def TX4 : u_T := fun k => match k with
  | 0 => ("ByHand$Telling", "count", "I", false)
  | 1 => ("ByHand$Telling", "lighter", "[I", true)
  | 2 => ("ByHand$Telling", "alikes", "[I", true)
  | _ => ("ByHand$Telling", "orders", "[I", true)
def tyX4 : Nat → FieldType := fun k => match k with
  | 0 => .int
  | 1 => .array .int
  | 2 => .array .int
  | _ => .array .int
theorem nmX4 : ∀ a, a < 4 → ∀ b, b < 4 → a ≠ b → (TX4 a).2.1 ≠ (TX4 b).2.1 := by decide +kernel
theorem tyX4_ok : ∀ k, k < 4 → parseFieldDescriptor (TX4 k).2.2.1 = some (tyX4 k) := by decide +kernel
abbrev cX4_init : ByteArray := prog_6_method_1_code
def yX4_init : MethodName := ⟨RX4, "<init>", "()V"⟩
abbrev cX4_lay : ByteArray := prog_6_method_2_code
def yX4_lay : MethodName := ⟨RX4, "lay", "(LByHand$Hands;ILByHand$Things;)V"⟩
abbrev cX4_has : ByteArray := prog_6_method_3_code
def yX4_has : MethodName := ⟨RX4, "has", "(I)Z"⟩
abbrev cX4_alikeTo : ByteArray := prog_6_method_4_code
def yX4_alikeTo : MethodName := ⟨RX4, "alikeTo", "(I)I"⟩
abbrev cX4_lighterThan : ByteArray := prog_6_method_5_code
def yX4_lighterThan : MethodName := ⟨RX4, "lighterThan", "(I)I"⟩
abbrev cX4_othersAlikeTo : ByteArray := prog_6_method_6_code
def yX4_othersAlikeTo : MethodName := ⟨RX4, "othersAlikeTo", "(I)I"⟩
abbrev cX4_allThings : ByteArray := prog_6_method_7_code
def yX4_allThings : MethodName := ⟨RX4, "allThings", "()I"⟩
abbrev cX4_isFinerThan : ByteArray := prog_6_method_8_code
def yX4_isFinerThan : MethodName := ⟨RX4, "isFinerThan", "(LByHand$Telling;)Z"⟩
abbrev cX4_within : ByteArray := prog_6_method_9_code
def yX4_within : MethodName := ⟨RX4, "within", "(II)I"⟩
abbrev cX4_alikeToAny : ByteArray := prog_6_method_10_code
def yX4_alikeToAny : MethodName := ⟨RX4, "alikeToAny", "(I)I"⟩
abbrev cX4_fewestSwaps : ByteArray := prog_6_method_11_code
def yX4_fewestSwaps : MethodName := ⟨RX4, "fewestSwaps", "(II)I"⟩
abbrev cX4_behindSwaps : ByteArray := prog_6_method_12_code
def yX4_behindSwaps : MethodName := ⟨RX4, "behindSwaps", "(III)I"⟩
abbrev cX4_leastIn : ByteArray := prog_6_method_13_code
def yX4_leastIn : MethodName := ⟨RX4, "leastIn", "(I)I"⟩
abbrev cX4_countOrders : ByteArray := prog_6_method_14_code
def yX4_countOrders : MethodName := ⟨RX4, "countOrders", "()I"⟩
abbrev cX4_placeInFirstOrder : ByteArray := prog_6_method_15_code
def yX4_placeInFirstOrder : MethodName := ⟨RX4, "placeInFirstOrder", "(I)I"⟩
abbrev cX4_fittingBehind : ByteArray := prog_6_method_16_code
def yX4_fittingBehind : MethodName := ⟨RX4, "fittingBehind", "(I)I"⟩
abbrev cX4_longestChain : ByteArray := prog_6_method_17_code
def yX4_longestChain : MethodName := ⟨RX4, "longestChain", "()I"⟩
abbrev cX4_heavierThanAny : ByteArray := prog_6_method_18_code
def yX4_heavierThanAny : MethodName := ⟨RX4, "heavierThanAny", "(I)I"⟩
abbrev cX4_greatestCrowd : ByteArray := prog_6_method_19_code
def yX4_greatestCrowd : MethodName := ⟨RX4, "greatestCrowd", "()I"⟩
abbrev cX4_areAllAlike : ByteArray := prog_6_method_20_code
def yX4_areAllAlike : MethodName := ⟨RX4, "areAllAlike", "(I)Z"⟩
abbrev cX4_countTold : ByteArray := prog_6_method_21_code
def yX4_countTold : MethodName := ⟨RX4, "countTold", "()I"⟩
def RX5 : String := "ByHand$Text"
def TX5 : u_T := fun k => match k with
  | _ => ("", "", "", false)
def tyX5 : Nat → FieldType := fun k => match k with
  | _ => .int
theorem nmX5 : ∀ a, a < 0 → ∀ b, b < 0 → a ≠ b → (TX5 a).2.1 ≠ (TX5 b).2.1 := by decide +kernel
theorem tyX5_ok : ∀ k, k < 0 → parseFieldDescriptor (TX5 k).2.2.1 = some (tyX5 k) := by decide +kernel
abbrev cX5_firstFault : ByteArray := prog_7_method_2_code
def yX5_firstFault : MethodName := ⟨RX5, "firstFault", "(LByHand$Sheets;III)I"⟩
abbrev cX5_goesOn : ByteArray := prog_7_method_3_code
def yX5_goesOn : MethodName := ⟨RX5, "goesOn", "(LByHand$Sheets;III)Z"⟩
abbrev cX5_read : ByteArray := prog_7_method_4_code
def yX5_read : MethodName := ⟨RX5, "read", "(LByHand$Sheets;IIILByHand$Things;)V"⟩
abbrev cX5_number : ByteArray := prog_7_method_5_code
def yX5_number : MethodName := ⟨RX5, "number", "(LByHand$Sheets;II)I"⟩
def RX6 : String := "ByHand$Things"
def TX6 : u_T := fun k => match k with
  | 0 => ("ByHand$Things", "count", "I", false)
  | _ => ("ByHand$Things", "weights", "[I", true)
def tyX6 : Nat → FieldType := fun k => match k with
  | 0 => .int
  | _ => .array .int
theorem nmX6 : ∀ a, a < 2 → ∀ b, b < 2 → a ≠ b → (TX6 a).2.1 ≠ (TX6 b).2.1 := by decide +kernel
theorem tyX6_ok : ∀ k, k < 2 → parseFieldDescriptor (TX6 k).2.2.1 = some (tyX6 k) := by decide +kernel
abbrev cX6_init : ByteArray := prog_8_method_1_code
def yX6_init : MethodName := ⟨RX6, "<init>", "()V"⟩
abbrev cX6_count : ByteArray := prog_8_method_2_code
def yX6_count : MethodName := ⟨RX6, "count", "()I"⟩
abbrev cX6_has : ByteArray := prog_8_method_3_code
def yX6_has : MethodName := ⟨RX6, "has", "(I)Z"⟩
abbrev cX6_weightOf : ByteArray := prog_8_method_4_code
def yX6_weightOf : MethodName := ⟨RX6, "weightOf", "(I)I"⟩
abbrev cX6_setWeight : ByteArray := prog_8_method_5_code
def yX6_setWeight : MethodName := ⟨RX6, "setWeight", "(II)V"⟩
abbrev cX6_clear : ByteArray := prog_8_method_6_code
def yX6_clear : MethodName := ⟨RX6, "clear", "()V"⟩
abbrev cX6_add : ByteArray := prog_8_method_7_code
def yX6_add : MethodName := ⟨RX6, "add", "(I)V"⟩
abbrev cX6_weightTogether : ByteArray := prog_8_method_8_code
def yX6_weightTogether : MethodName := ⟨RX6, "weightTogether", "(I)I"⟩
abbrev cX6_greatestOf : ByteArray := prog_8_method_9_code
def yX6_greatestOf : MethodName := ⟨RX6, "greatestOf", "(I)I"⟩
def RX7 : String := "ByHand"
def TX7 : u_T := fun k => match k with
  | 0 => ("ByHand", "things", "LByHand$Things;", true)
  | 1 => ("ByHand", "hands", "LByHand$Hands;", true)
  | 2 => ("ByHand", "sayings", "LByHand$Sayings;", true)
  | 3 => ("ByHand", "sheets", "LByHand$Sheets;", true)
  | 4 => ("ByHand", "telling", "LByHand$Telling;", true)
  | 5 => ("ByHand", "otherTelling", "LByHand$Telling;", true)
  | 6 => ("ByHand", "handRow", "LByHand$HandRow;", true)
  | 7 => ("ByHand", "traceLeft", "I", false)
  | _ => ("ByHand", "latestFault", "I", false)
def tyX7 : Nat → FieldType := fun k => match k with
  | 0 => .object "ByHand$Things"
  | 1 => .object "ByHand$Hands"
  | 2 => .object "ByHand$Sayings"
  | 3 => .object "ByHand$Sheets"
  | 4 => .object "ByHand$Telling"
  | 5 => .object "ByHand$Telling"
  | 6 => .object "ByHand$HandRow"
  | 7 => .int
  | _ => .int
theorem nmX7 : ∀ a, a < 9 → ∀ b, b < 9 → a ≠ b → (TX7 a).2.1 ≠ (TX7 b).2.1 := by decide +kernel
theorem tyX7_ok : ∀ k, k < 9 → parseFieldDescriptor (TX7 k).2.2.1 = some (tyX7 k) := by decide +kernel
abbrev cX7_init : ByteArray := prog_1_method_1_code
def yX7_init : MethodName := ⟨RX7, "<init>", "()V"⟩
abbrev cX7_market : ByteArray := prog_1_method_2_code
def yX7_market : MethodName := ⟨RX7, "market", "(IIII)I"⟩
abbrev cX7_weight : ByteArray := prog_1_method_3_code
def yX7_weight : MethodName := ⟨RX7, "weight", "(I)I"⟩
abbrev cX7_weigh : ByteArray := prog_1_method_4_code
def yX7_weigh : MethodName := ⟨RX7, "weigh", "(II)I"⟩
abbrev cX7_hand : ByteArray := prog_1_method_5_code
def yX7_hand : MethodName := ⟨RX7, "hand", "(II)I"⟩
abbrev cX7_ofHand : ByteArray := prog_1_method_6_code
def yX7_ofHand : MethodName := ⟨RX7, "ofHand", "(II)I"⟩
abbrev cX7_tells : ByteArray := prog_1_method_7_code
def yX7_tells : MethodName := ⟨RX7, "tells", "(III)I"⟩
abbrev cX7_alike : ByteArray := prog_1_method_8_code
def yX7_alike : MethodName := ⟨RX7, "alike", "(II)I"⟩
abbrev cX7_finer : ByteArray := prog_1_method_9_code
def yX7_finer : MethodName := ⟨RX7, "finer", "(II)I"⟩
abbrev cX7_way : ByteArray := prog_1_method_10_code
def yX7_way : MethodName := ⟨RX7, "way", "(IIII)I"⟩
abbrev cX7_noon : ByteArray := prog_1_method_11_code
def yX7_noon : MethodName := ⟨RX7, "noon", "(III)I"⟩
abbrev cX7_gain : ByteArray := prog_1_method_12_code
def yX7_gain : MethodName := ⟨RX7, "gain", "(IIIII)I"⟩
abbrev cX7_swappedUp : ByteArray := prog_1_method_13_code
def yX7_swappedUp : MethodName := ⟨RX7, "swappedUp", "(I)I"⟩
abbrev cX7_saying : ByteArray := prog_1_method_14_code
def yX7_saying : MethodName := ⟨RX7, "saying", "(IIII)I"⟩
abbrev cX7_back : ByteArray := prog_1_method_15_code
def yX7_back : MethodName := ⟨RX7, "back", "(I)I"⟩
abbrev cX7_untrue : ByteArray := prog_1_method_16_code
def yX7_untrue : MethodName := ⟨RX7, "untrue", "()I"⟩
abbrev cX7_leaves : ByteArray := prog_1_method_17_code
def yX7_leaves : MethodName := ⟨RX7, "leaves", "(II)I"⟩
abbrev cX7_breaks : ByteArray := prog_1_method_18_code
def yX7_breaks : MethodName := ⟨RX7, "breaks", "(II)I"⟩
abbrev cX7_falseByWeight : ByteArray := prog_1_method_19_code
def yX7_falseByWeight : MethodName := ⟨RX7, "falseByWeight", "(II)I"⟩
abbrev cX7_rows : ByteArray := prog_1_method_20_code
def yX7_rows : MethodName := ⟨RX7, "rows", "(II)I"⟩
abbrev cX7_longest : ByteArray := prog_1_method_21_code
def yX7_longest : MethodName := ⟨RX7, "longest", "(I)I"⟩
abbrev cX7_crowd : ByteArray := prog_1_method_22_code
def yX7_crowd : MethodName := ⟨RX7, "crowd", "(I)I"⟩
abbrev cX7_measure : ByteArray := prog_1_method_23_code
def yX7_measure : MethodName := ⟨RX7, "measure", "(II)I"⟩
abbrev cX7_copies : ByteArray := prog_1_method_24_code
def yX7_copies : MethodName := ⟨RX7, "copies", "(IIIIII)I"⟩
abbrev cX7_bestRow : ByteArray := prog_1_method_25_code
def yX7_bestRow : MethodName := ⟨RX7, "bestRow", "(IIIIII)I"⟩
abbrev cX7_takeHandRow : ByteArray := prog_1_method_26_code
def yX7_takeHandRow : MethodName := ⟨RX7, "takeHandRow", "(IIII)I"⟩
abbrev cX7_even : ByteArray := prog_1_method_27_code
def yX7_even : MethodName := ⟨RX7, "even", "(II)I"⟩
abbrev cX7_odds : ByteArray := prog_1_method_28_code
def yX7_odds : MethodName := ⟨RX7, "odds", "(II)J"⟩
abbrev cX7_commonDivisor : ByteArray := prog_1_method_29_code
def yX7_commonDivisor : MethodName := ⟨RX7, "commonDivisor", "(II)I"⟩
abbrev cX7_sheet : ByteArray := prog_1_method_30_code
def yX7_sheet : MethodName := ⟨RX7, "sheet", "(III)I"⟩
abbrev cX7_lose : ByteArray := prog_1_method_31_code
def yX7_lose : MethodName := ⟨RX7, "lose", "(I)I"⟩
abbrev cX7_put : ByteArray := prog_1_method_32_code
def yX7_put : MethodName := ⟨RX7, "put", "(III)I"⟩
abbrev cX7_cell : ByteArray := prog_1_method_33_code
def yX7_cell : MethodName := ⟨RX7, "cell", "(III)J"⟩
abbrev cX7_copy : ByteArray := prog_1_method_34_code
def yX7_copy : MethodName := ⟨RX7, "copy", "(IIIII)I"⟩
abbrev cX7_tell : ByteArray := prog_1_method_35_code
def yX7_tell : MethodName := ⟨RX7, "tell", "(I)I"⟩
abbrev cX7_shake : ByteArray := prog_1_method_36_code
def yX7_shake : MethodName := ⟨RX7, "shake", "(I)I"⟩
abbrev cX7_as : ByteArray := prog_1_method_37_code
def yX7_as : MethodName := ⟨RX7, "as", "(II)I"⟩
abbrev cX7_trace : ByteArray := prog_1_method_38_code
def yX7_trace : MethodName := ⟨RX7, "trace", "()I"⟩
abbrev cX7_fault : ByteArray := prog_1_method_39_code
def yX7_fault : MethodName := ⟨RX7, "fault", "()I"⟩
abbrev cX7_many : ByteArray := prog_1_method_40_code
def yX7_many : MethodName := ⟨RX7, "many", "(I)I"⟩
abbrev cX7_handBody : ByteArray := prog_1_method_41_code
def yX7_handBody : MethodName := ⟨RX7, "handBody", "(I)I"⟩
abbrev cX7_steadyBody : ByteArray := prog_1_method_42_code
def yX7_steadyBody : MethodName := ⟨RX7, "steadyBody", "(I)I"⟩
abbrev cX7_smithBody : ByteArray := prog_1_method_43_code
def yX7_smithBody : MethodName := ⟨RX7, "smithBody", "(I)I"⟩
abbrev cX7_lentBody : ByteArray := prog_1_method_44_code
def yX7_lentBody : MethodName := ⟨RX7, "lentBody", "(I)I"⟩
abbrev cX7_smithsOwnBody : ByteArray := prog_1_method_45_code
def yX7_smithsOwnBody : MethodName := ⟨RX7, "smithsOwnBody", "()I"⟩
abbrev cX7_leaveTrace : ByteArray := prog_1_method_46_code
def yX7_leaveTrace : MethodName := ⟨RX7, "leaveTrace", "(I)V"⟩
abbrev cX7_faulty : ByteArray := prog_1_method_47_code
def yX7_faulty : MethodName := ⟨RX7, "faulty", "(I)I"⟩
abbrev cX7_isSort : ByteArray := prog_1_method_48_code
def yX7_isSort : MethodName := ⟨RX7, "isSort", "(I)Z"⟩
abbrev cX7_isKind : ByteArray := prog_1_method_49_code
def yX7_isKind : MethodName := ⟨RX7, "isKind", "(I)Z"⟩
abbrev cX7_isFirstOrSecond : ByteArray := prog_1_method_50_code
def yX7_isFirstOrSecond : MethodName := ⟨RX7, "isFirstOrSecond", "(I)Z"⟩
abbrev cX7_isIn : ByteArray := prog_1_method_51_code
def yX7_isIn : MethodName := ⟨RX7, "isIn", "(II)Z"⟩
def RX8 : String := "ByHandModel"
def TX8 : u_T := fun k => match k with
  | 0 => ("ByHandModel", "fault", "I", false)
  | 1 => ("ByHandModel", "trace", "I", false)
  | 2 => ("ByHandModel", "sorts", "[I", true)
  | 3 => ("ByHandModel", "sheetLong", "[I", true)
  | 4 => ("ByHandModel", "cells", "[I", true)
  | 5 => ("ByHandModel", "things", "I", false)
  | 6 => ("ByHandModel", "weight", "[I", true)
  | 7 => ("ByHandModel", "at", "I", false)
  | 8 => ("ByHandModel", "readThings", "I", false)
  | 9 => ("ByHandModel", "readWeight", "[I", true)
  | 10 => ("ByHandModel", "hands", "I", false)
  | 11 => ("ByHandModel", "kind", "[I", true)
  | 12 => ("ByHandModel", "part", "[I", true)
  | 13 => ("ByHandModel", "far", "[I", true)
  | 14 => ("ByHandModel", "sayings", "I", false)
  | 15 => ("ByHandModel", "saidBy", "[I", true)
  | 16 => ("ByHandModel", "saidFirst", "[I", true)
  | 17 => ("ByHandModel", "saidOther", "[I", true)
  | 18 => ("ByHandModel", "saidIs", "[I", true)
  | 19 => ("ByHandModel", "ways", "[I", true)
  | 20 => ("ByHandModel", "chain", "[I", true)
  | 21 => ("ByHandModel", "row", "[I", true)
  | _ => ("ByHandModel", "bestIs", "[I", true)
def tyX8 : Nat → FieldType := fun k => match k with
  | 0 => .int
  | 1 => .int
  | 2 => .array .int
  | 3 => .array .int
  | 4 => .array .int
  | 5 => .int
  | 6 => .array .int
  | 7 => .int
  | 8 => .int
  | 9 => .array .int
  | 10 => .int
  | 11 => .array .int
  | 12 => .array .int
  | 13 => .array .int
  | 14 => .int
  | 15 => .array .int
  | 16 => .array .int
  | 17 => .array .int
  | 18 => .array .int
  | 19 => .array .int
  | 20 => .array .int
  | 21 => .array .int
  | _ => .array .int
theorem nmX8 : ∀ a, a < 23 → ∀ b, b < 23 → a ≠ b → (TX8 a).2.1 ≠ (TX8 b).2.1 := by decide +kernel
theorem tyX8_ok : ∀ k, k < 23 → parseFieldDescriptor (TX8 k).2.2.1 = some (tyX8 k) := by decide +kernel
abbrev cX8_init : ByteArray := prog_10_method_1_code
def yX8_init : MethodName := ⟨RX8, "<init>", "()V"⟩
abbrev cX8_fails : ByteArray := prog_10_method_3_code
def yX8_fails : MethodName := ⟨RX8, "fails", "(I)I"⟩
abbrev cX8_lost : ByteArray := prog_10_method_4_code
def yX8_lost : MethodName := ⟨RX8, "lost", "(I)J"⟩
abbrev cX8_within : ByteArray := prog_10_method_5_code
def yX8_within : MethodName := ⟨RX8, "within", "(III)Z"⟩
abbrev cX8_share : ByteArray := prog_10_method_6_code
def yX8_share : MethodName := ⟨RX8, "share", "(JJI)J"⟩
abbrev cX8_bits : ByteArray := prog_10_method_7_code
def yX8_bits : MethodName := ⟨RX8, "bits", "(I)I"⟩
abbrev cX8_isSheet : ByteArray := prog_10_method_8_code
def yX8_isSheet : MethodName := ⟨RX8, "isSheet", "(I)Z"⟩
abbrev cX8_isSort : ByteArray := prog_10_method_9_code
def yX8_isSort : MethodName := ⟨RX8, "isSort", "(I)Z"⟩
abbrev cX8_against : ByteArray := prog_10_method_10_code
def yX8_against : MethodName := ⟨RX8, "against", "(IIII)I"⟩
abbrev cX8_isThing : ByteArray := prog_10_method_11_code
def yX8_isThing : MethodName := ⟨RX8, "isThing", "(I)Z"⟩
abbrev cX8_market : ByteArray := prog_10_method_12_code
def yX8_market : MethodName := ⟨RX8, "market", "(IIII)I"⟩
abbrev cX8_readMarket : ByteArray := prog_10_method_13_code
def yX8_readMarket : MethodName := ⟨RX8, "readMarket", "(I)Z"⟩
abbrev cX8_weight : ByteArray := prog_10_method_14_code
def yX8_weight : MethodName := ⟨RX8, "weight", "(I)I"⟩
abbrev cX8_isWeight : ByteArray := prog_10_method_15_code
def yX8_isWeight : MethodName := ⟨RX8, "isWeight", "(I)Z"⟩
abbrev cX8_weigh : ByteArray := prog_10_method_16_code
def yX8_weigh : MethodName := ⟨RX8, "weigh", "(II)I"⟩
abbrev cX8_isHand : ByteArray := prog_10_method_17_code
def yX8_isHand : MethodName := ⟨RX8, "isHand", "(I)Z"⟩
abbrev cX8_hand : ByteArray := prog_10_method_18_code
def yX8_hand : MethodName := ⟨RX8, "hand", "(II)I"⟩
abbrev cX8_ofHand : ByteArray := prog_10_method_19_code
def yX8_ofHand : MethodName := ⟨RX8, "ofHand", "(II)I"⟩
abbrev cX8_times : ByteArray := prog_10_method_20_code
def yX8_times : MethodName := ⟨RX8, "times", "(I)I"⟩
abbrev cX8_isTold : ByteArray := prog_10_method_21_code
def yX8_isTold : MethodName := ⟨RX8, "isTold", "(III)Z"⟩
abbrev cX8_tellsThem : ByteArray := prog_10_method_22_code
def yX8_tellsThem : MethodName := ⟨RX8, "tellsThem", "(III)Z"⟩
abbrev cX8_areAlike : ByteArray := prog_10_method_23_code
def yX8_areAlike : MethodName := ⟨RX8, "areAlike", "(III)Z"⟩
abbrev cX8_tells : ByteArray := prog_10_method_24_code
def yX8_tells : MethodName := ⟨RX8, "tells", "(III)I"⟩
abbrev cX8_alikeTo : ByteArray := prog_10_method_25_code
def yX8_alikeTo : MethodName := ⟨RX8, "alikeTo", "(II)I"⟩
abbrev cX8_alike : ByteArray := prog_10_method_26_code
def yX8_alike : MethodName := ⟨RX8, "alike", "(II)I"⟩
abbrev cX8_finer : ByteArray := prog_10_method_27_code
def yX8_finer : MethodName := ⟨RX8, "finer", "(II)I"⟩
abbrev cX8_findFar : ByteArray := prog_10_method_28_code
def yX8_findFar : MethodName := ⟨RX8, "findFar", "(II)V"⟩
abbrev cX8_way : ByteArray := prog_10_method_29_code
def yX8_way : MethodName := ⟨RX8, "way", "(IIII)I"⟩
abbrev cX8_nextOf : ByteArray := prog_10_method_30_code
def yX8_nextOf : MethodName := ⟨RX8, "nextOf", "(II)I"⟩
abbrev cX8_noon : ByteArray := prog_10_method_31_code
def yX8_noon : MethodName := ⟨RX8, "noon", "(III)I"⟩
abbrev cX8_gain : ByteArray := prog_10_method_32_code
def yX8_gain : MethodName := ⟨RX8, "gain", "(IIIII)I"⟩
abbrev cX8_isGot : ByteArray := prog_10_method_33_code
def yX8_isGot : MethodName := ⟨RX8, "isGot", "(IIII)Z"⟩
abbrev cX8_saying : ByteArray := prog_10_method_34_code
def yX8_saying : MethodName := ⟨RX8, "saying", "(IIII)I"⟩
abbrev cX8_back : ByteArray := prog_10_method_35_code
def yX8_back : MethodName := ⟨RX8, "back", "(I)I"⟩
abbrev cX8_isSo : ByteArray := prog_10_method_36_code
def yX8_isSo : MethodName := ⟨RX8, "isSo", "(I)Z"⟩
abbrev cX8_untrue : ByteArray := prog_10_method_37_code
def yX8_untrue : MethodName := ⟨RX8, "untrue", "()I"⟩
abbrev cX8_falseOf : ByteArray := prog_10_method_38_code
def yX8_falseOf : MethodName := ⟨RX8, "falseOf", "(I)I"⟩
abbrev cX8_leaves : ByteArray := prog_10_method_39_code
def yX8_leaves : MethodName := ⟨RX8, "leaves", "(II)I"⟩
abbrev cX8_breaks : ByteArray := prog_10_method_40_code
def yX8_breaks : MethodName := ⟨RX8, "breaks", "(II)I"⟩
abbrev cX8_mayStand : ByteArray := prog_10_method_41_code
def yX8_mayStand : MethodName := ⟨RX8, "mayStand", "(III)Z"⟩
abbrev cX8_rows : ByteArray := prog_10_method_42_code
def yX8_rows : MethodName := ⟨RX8, "rows", "(II)I"⟩
abbrev cX8_inFirstRow : ByteArray := prog_10_method_43_code
def yX8_inFirstRow : MethodName := ⟨RX8, "inFirstRow", "(II)I"⟩
abbrev cX8_longest : ByteArray := prog_10_method_44_code
def yX8_longest : MethodName := ⟨RX8, "longest", "(I)I"⟩
abbrev cX8_isCrowd : ByteArray := prog_10_method_45_code
def yX8_isCrowd : MethodName := ⟨RX8, "isCrowd", "(II)Z"⟩
abbrev cX8_crowd : ByteArray := prog_10_method_46_code
def yX8_crowd : MethodName := ⟨RX8, "crowd", "(I)I"⟩
abbrev cX8_measure : ByteArray := prog_10_method_47_code
def yX8_measure : MethodName := ⟨RX8, "measure", "(II)I"⟩
abbrev cX8_greatest : ByteArray := prog_10_method_48_code
def yX8_greatest : MethodName := ⟨RX8, "greatest", "(II)I"⟩
abbrev cX8_least : ByteArray := prog_10_method_49_code
def yX8_least : MethodName := ⟨RX8, "least", "(II)I"⟩
abbrev cX8_copied : ByteArray := prog_10_method_50_code
def yX8_copied : MethodName := ⟨RX8, "copied", "(III)I"⟩
abbrev cX8_layRow : ByteArray := prog_10_method_51_code
def yX8_layRow : MethodName := ⟨RX8, "layRow", "(III)I"⟩
abbrev cX8_copies : ByteArray := prog_10_method_52_code
def yX8_copies : MethodName := ⟨RX8, "copies", "(IIIIII)I"⟩
abbrev cX8_exchange : ByteArray := prog_10_method_53_code
def yX8_exchange : MethodName := ⟨RX8, "exchange", "(II)V"⟩
abbrev cX8_nextRow : ByteArray := prog_10_method_54_code
def yX8_nextRow : MethodName := ⟨RX8, "nextRow", "(I)Z"⟩
abbrev cX8_findBestRow : ByteArray := prog_10_method_55_code
def yX8_findBestRow : MethodName := ⟨RX8, "findBestRow", "(II)I"⟩
abbrev cX8_bestRow : ByteArray := prog_10_method_56_code
def yX8_bestRow : MethodName := ⟨RX8, "bestRow", "(IIIIII)I"⟩
abbrev cX8_sumOf : ByteArray := prog_10_method_57_code
def yX8_sumOf : MethodName := ⟨RX8, "sumOf", "(I)I"⟩
abbrev cX8_areEven : ByteArray := prog_10_method_58_code
def yX8_areEven : MethodName := ⟨RX8, "areEven", "(III)Z"⟩
abbrev cX8_even : ByteArray := prog_10_method_59_code
def yX8_even : MethodName := ⟨RX8, "even", "(II)I"⟩
abbrev cX8_odds : ByteArray := prog_10_method_60_code
def yX8_odds : MethodName := ⟨RX8, "odds", "(II)J"⟩
abbrev cX8_sheet : ByteArray := prog_10_method_61_code
def yX8_sheet : MethodName := ⟨RX8, "sheet", "(III)I"⟩
abbrev cX8_lose : ByteArray := prog_10_method_62_code
def yX8_lose : MethodName := ⟨RX8, "lose", "(I)I"⟩
abbrev cX8_put : ByteArray := prog_10_method_63_code
def yX8_put : MethodName := ⟨RX8, "put", "(III)I"⟩
abbrev cX8_cell : ByteArray := prog_10_method_64_code
def yX8_cell : MethodName := ⟨RX8, "cell", "(III)J"⟩
abbrev cX8_copy : ByteArray := prog_10_method_65_code
def yX8_copy : MethodName := ⟨RX8, "copy", "(IIIII)I"⟩
abbrev cX8_begins : ByteArray := prog_10_method_66_code
def yX8_begins : MethodName := ⟨RX8, "begins", "(I)V"⟩
abbrev cX8_tell : ByteArray := prog_10_method_67_code
def yX8_tell : MethodName := ⟨RX8, "tell", "(I)I"⟩
abbrev cX8_shake : ByteArray := prog_10_method_68_code
def yX8_shake : MethodName := ⟨RX8, "shake", "(I)I"⟩
abbrev cX8_as : ByteArray := prog_10_method_69_code
def yX8_as : MethodName := ⟨RX8, "as", "(II)I"⟩
abbrev cX8_trace : ByteArray := prog_10_method_70_code
def yX8_trace : MethodName := ⟨RX8, "trace", "()I"⟩
abbrev cX8_fault : ByteArray := prog_10_method_71_code
def yX8_fault : MethodName := ⟨RX8, "fault", "()I"⟩
abbrev cX8_many : ByteArray := prog_10_method_72_code
def yX8_many : MethodName := ⟨RX8, "many", "(I)I"⟩
def RJ6 : String := "java/lang/Integer"
def TJ6 : u_T := fun k => match k with
  | _ => ("", "", "", false)
def tyJ6 : Nat → FieldType := fun k => match k with
  | _ => .int
theorem nmJ6 : ∀ a, a < 0 → ∀ b, b < 0 → a ≠ b → (TJ6 a).2.1 ≠ (TJ6 b).2.1 := by decide +kernel
theorem tyJ6_ok : ∀ k, k < 0 → parseFieldDescriptor (TJ6 k).2.2.1 = some (tyJ6 k) := by decide +kernel
abbrev cJ6_bitCount_0f7a4 : ByteArray := prog_11_method_49_code
def yJ6_bitCount_0f7a4 : MethodName := ⟨RJ6, "bitCount", "(I)I"⟩
def RJ9 : String := "java/lang/Math"
def TJ9 : u_T := fun k => match k with
  | _ => ("", "", "", false)
def tyJ9 : Nat → FieldType := fun k => match k with
  | _ => .int
theorem nmJ9 : ∀ a, a < 0 → ∀ b, b < 0 → a ≠ b → (TJ9 a).2.1 ≠ (TJ9 b).2.1 := by decide +kernel
theorem tyJ9_ok : ∀ k, k < 0 → parseFieldDescriptor (TJ9 k).2.2.1 = some (tyJ9 k) := by decide +kernel
abbrev cJ9_max_7cf53 : ByteArray := prog_12_method_65_code
def yJ9_max_7cf53 : MethodName := ⟨RJ9, "max", "(II)I"⟩
abbrev cJ9_min_7cf53 : ByteArray := prog_12_method_69_code
def yJ9_min_7cf53 : MethodName := ⟨RJ9, "min", "(II)I"⟩
def RJ10 : String := "java/lang/System"
def TJ10 : u_T := fun k => match k with
  | _ => ("", "", "", false)
def tyJ10 : Nat → FieldType := fun k => match k with
  | _ => .int
theorem nmJ10 : ∀ a, a < 0 → ∀ b, b < 0 → a ≠ b → (TJ10 a).2.1 ≠ (TJ10 b).2.1 := by decide +kernel
theorem tyJ10_ok : ∀ k, k < 0 → parseFieldDescriptor (TJ10 k).2.2.1 = some (tyJ10 k) := by decide +kernel
def RL : String := "ByHandLaw"
abbrev cL_law : ByteArray := code
def yL_law : MethodName := ⟨RL, "law", "([I)Z"⟩
abbrev vwCl : List vw_C := [(RX0, TX0, 3), (RX1, TX1, 3), (RX2, TX2, 5), (RX3, TX3, 4), (RX4, TX4, 4), (RX6, TX6, 2), (RX7, TX7, 9), (RX8, TX8, 23)]
/-- the words that every contract stands on: the tables' good words, and 'selects' of the private methods -/
def wsL_law : List Cond := k2_sels lw_privs ++ tables_1.filter goodWord
theorem wsL_law_in : ∀ w ∈ wsL_law, w ∈ lw_tbl := fun w h => (List.mem_append.mp h).elim (fun h => List.mem_append_left _ h) (fun h => List.mem_append_right _ (List.mem_filter.mp h).1)
theorem wsL_sel_good : (k2_sels lw_privs).all goodWord = true := by decide +kernel
theorem wsL_good : ∀ w ∈ wsL_law, (w.onTables && w.keeps) = true ∨ ∃ ty, w = .arrayClass ty := fun w h => good_of_word ((List.mem_append.mp h).elim (fun h => List.all_eq_true.mp wsL_sel_good w h) (fun h => (List.mem_filter.mp h).2))
theorem wsL_of {w : Cond} (h : w ∈ tables_1) (hg : goodWord w = true) : w ∈ wsL_law := List.mem_append_right _ (List.mem_filter.mpr ⟨h, hg⟩)
theorem wsL_sel {w : Cond} (h : w ∈ k2_sels lw_privs) : w ∈ wsL_law := List.mem_append_left _ h
theorem mi_L : Cond.initialized RL ∈ wsL_law := wsL_of (List.mem_of_getElem? (i := 0) (by decide +kernel)) rfl
theorem mi_X7 : Cond.initialized RX7 ∈ wsL_law := wsL_of (List.mem_of_getElem? (i := 1) (by decide +kernel)) rfl
theorem mi_X6 : Cond.initialized RX6 ∈ wsL_law := wsL_of (List.mem_of_getElem? (i := 2) (by decide +kernel)) rfl
theorem mi_X1 : Cond.initialized RX1 ∈ wsL_law := wsL_of (List.mem_of_getElem? (i := 3) (by decide +kernel)) rfl
theorem mi_X2 : Cond.initialized RX2 ∈ wsL_law := wsL_of (List.mem_of_getElem? (i := 4) (by decide +kernel)) rfl
theorem mi_X3 : Cond.initialized RX3 ∈ wsL_law := wsL_of (List.mem_of_getElem? (i := 5) (by decide +kernel)) rfl
theorem mi_X4 : Cond.initialized RX4 ∈ wsL_law := wsL_of (List.mem_of_getElem? (i := 6) (by decide +kernel)) rfl
theorem mi_X0 : Cond.initialized RX0 ∈ wsL_law := wsL_of (List.mem_of_getElem? (i := 7) (by decide +kernel)) rfl
theorem mi_X8 : Cond.initialized RX8 ∈ wsL_law := wsL_of (List.mem_of_getElem? (i := 8) (by decide +kernel)) rfl
theorem mi_X5 : Cond.initialized RX5 ∈ wsL_law := wsL_of (List.mem_of_getElem? (i := 9) (by decide +kernel)) rfl
theorem mi_J9 : Cond.initialized RJ9 ∈ wsL_law := wsL_of (List.mem_of_getElem? (i := 10) (by decide +kernel)) rfl
theorem mi_J6 : Cond.initialized RJ6 ∈ wsL_law := wsL_of (List.mem_of_getElem? (i := 11) (by decide +kernel)) rfl
theorem mi_J10 : Cond.initialized RJ10 ∈ wsL_law := wsL_of (List.mem_of_getElem? (i := 12) (by decide +kernel)) rfl
theorem mc_X7_init : Cond.code yX7_init cX7_init 1 none ∈ wsL_law := wsL_of (List.mem_append_left _ (List.mem_of_getElem? (i := 17) rfl)) rfl
theorem mn_X7_init : Cond.instanceMethod yX7_init ∈ wsL_law := wsL_of (List.mem_of_getElem? (i := 16) (by decide +kernel)) rfl
theorem mc_X6_init : Cond.code yX6_init cX6_init 1 none ∈ wsL_law := wsL_of (List.mem_append_left _ (List.mem_of_getElem? (i := 25) rfl)) rfl
theorem mn_X6_init : Cond.instanceMethod yX6_init ∈ wsL_law := wsL_of (List.mem_of_getElem? (i := 24) (by decide +kernel)) rfl
theorem mc_X1_init : Cond.code yX1_init cX1_init 1 none ∈ wsL_law := wsL_of (List.mem_append_left _ (List.mem_of_getElem? (i := 39) rfl)) rfl
theorem mn_X1_init : Cond.instanceMethod yX1_init ∈ wsL_law := wsL_of (List.mem_of_getElem? (i := 38) (by decide +kernel)) rfl
theorem mc_X2_init : Cond.code yX2_init cX2_init 1 none ∈ wsL_law := wsL_of (List.mem_append_left _ (List.mem_of_getElem? (i := 55) rfl)) rfl
theorem mn_X2_init : Cond.instanceMethod yX2_init ∈ wsL_law := wsL_of (List.mem_of_getElem? (i := 54) (by decide +kernel)) rfl
theorem mc_X3_init : Cond.code yX3_init cX3_init 1 none ∈ wsL_law := wsL_of (List.mem_append_left _ (List.mem_of_getElem? (i := 77) rfl)) rfl
theorem mn_X3_init : Cond.instanceMethod yX3_init ∈ wsL_law := wsL_of (List.mem_of_getElem? (i := 76) (by decide +kernel)) rfl
theorem mc_X4_init : Cond.code yX4_init cX4_init 1 none ∈ wsL_law := wsL_of (List.mem_append_left _ (List.mem_of_getElem? (i := 99) rfl)) rfl
theorem mn_X4_init : Cond.instanceMethod yX4_init ∈ wsL_law := wsL_of (List.mem_of_getElem? (i := 98) (by decide +kernel)) rfl
theorem mc_X0_init : Cond.code yX0_init cX0_init 1 none ∈ wsL_law := wsL_of (List.mem_append_left _ (List.mem_of_getElem? (i := 118) rfl)) rfl
theorem mn_X0_init : Cond.instanceMethod yX0_init ∈ wsL_law := wsL_of (List.mem_of_getElem? (i := 117) (by decide +kernel)) rfl
theorem mc_X7_market : Cond.code yX7_market cX7_market 7 (some .int) ∈ wsL_law := wsL_of (List.mem_append_left _ (List.mem_of_getElem? (i := 161) rfl)) rfl
theorem mn_X7_market : Cond.instanceMethod yX7_market ∈ wsL_law := wsL_of (List.mem_of_getElem? (i := 159) (by decide +kernel)) rfl
theorem mv_X7_market : Cond.selects RX7 yX7_market yX7_market ∈ wsL_law := wsL_of (List.mem_of_getElem? (i := 160) (by decide +kernel)) rfl
theorem mc_X3_has : Cond.code yX3_has cX3_has 2 (some .boolean) ∈ wsL_law := wsL_of (List.mem_append_left _ (List.mem_of_getElem? (i := 165) rfl)) rfl
theorem mn_X3_has : Cond.instanceMethod yX3_has ∈ wsL_law := wsL_of (List.mem_of_getElem? (i := 163) (by decide +kernel)) rfl
theorem mv_X3_has : Cond.selects RX3 yX3_has yX3_has ∈ wsL_law := wsL_of (List.mem_of_getElem? (i := 164) (by decide +kernel)) rfl
theorem mc_X7_isSort : Cond.code yX7_isSort cX7_isSort 1 (some .boolean) ∈ wsL_law := wsL_of (List.mem_append_left _ (List.mem_of_getElem? (i := 168) rfl)) rfl
theorem ms_X7_isSort : Cond.static yX7_isSort ∈ wsL_law := wsL_of (List.mem_of_getElem? (i := 167) (by decide +kernel)) rfl
theorem mc_X3_faultOfTaking : Cond.code yX3_faultOfTaking cX3_faultOfTaking 5 (some .int) ∈ wsL_law := wsL_of (List.mem_append_left _ (List.mem_of_getElem? (i := 172) rfl)) rfl
theorem mn_X3_faultOfTaking : Cond.instanceMethod yX3_faultOfTaking ∈ wsL_law := wsL_of (List.mem_of_getElem? (i := 170) (by decide +kernel)) rfl
theorem mv_X3_faultOfTaking : Cond.selects RX3 yX3_faultOfTaking yX3_faultOfTaking ∈ wsL_law := wsL_of (List.mem_of_getElem? (i := 171) (by decide +kernel)) rfl
theorem mc_X3_hasRow : Cond.code yX3_hasRow cX3_hasRow 2 (some .boolean) ∈ wsL_law := wsL_of (List.mem_append_left _ (List.mem_of_getElem? (i := 176) rfl)) rfl
theorem mn_X3_hasRow : Cond.instanceMethod yX3_hasRow ∈ wsL_law := wsL_of (List.mem_of_getElem? (i := 174) (by decide +kernel)) rfl
theorem mv_X3_hasRow : Cond.selects RX3 yX3_hasRow yX3_hasRow ∈ wsL_law := wsL_of (List.mem_of_getElem? (i := 175) (by decide +kernel)) rfl
theorem mc_X3_sortOf : Cond.code yX3_sortOf cX3_sortOf 2 (some .int) ∈ wsL_law := wsL_of (List.mem_append_left _ (List.mem_of_getElem? (i := 181) rfl)) rfl
theorem mn_X3_sortOf : Cond.instanceMethod yX3_sortOf ∈ wsL_law := wsL_of (List.mem_of_getElem? (i := 179) (by decide +kernel)) rfl
theorem mv_X3_sortOf : Cond.selects RX3 yX3_sortOf yX3_sortOf ∈ wsL_law := wsL_of (List.mem_of_getElem? (i := 180) (by decide +kernel)) rfl
theorem mc_X3_hasCells : Cond.code yX3_hasCells cX3_hasCells 4 (some .boolean) ∈ wsL_law := wsL_of (List.mem_append_left _ (List.mem_of_getElem? (i := 185) rfl)) rfl
theorem mn_X3_hasCells : Cond.instanceMethod yX3_hasCells ∈ wsL_law := wsL_of (List.mem_of_getElem? (i := 183) (by decide +kernel)) rfl
theorem mv_X3_hasCells : Cond.selects RX3 yX3_hasCells yX3_hasCells ∈ wsL_law := wsL_of (List.mem_of_getElem? (i := 184) (by decide +kernel)) rfl
theorem mc_X7_faulty : Cond.code yX7_faulty cX7_faulty 2 (some .int) ∈ wsL_law := wsL_of (List.mem_append_left _ (List.mem_of_getElem? (i := 189) rfl)) rfl
theorem mn_X7_faulty : Cond.instanceMethod yX7_faulty ∈ wsL_law := wsL_of (List.mem_of_getElem? (i := 188) (by decide +kernel)) rfl
theorem mv_X7_faulty : Cond.selects RX7 yX7_faulty yX7_faulty ∈ wsL_law := wsL_sel (List.mem_of_getElem? (i := 0) (by decide +kernel))
theorem mc_X5_firstFault : Cond.code yX5_firstFault cX5_firstFault 6 (some .int) ∈ wsL_law := wsL_of (List.mem_append_left _ (List.mem_of_getElem? (i := 192) rfl)) rfl
theorem ms_X5_firstFault : Cond.static yX5_firstFault ∈ wsL_law := wsL_of (List.mem_of_getElem? (i := 191) (by decide +kernel)) rfl
theorem mc_X5_goesOn : Cond.code yX5_goesOn cX5_goesOn 6 (some .boolean) ∈ wsL_law := wsL_of (List.mem_append_left _ (List.mem_of_getElem? (i := 195) rfl)) rfl
theorem ms_X5_goesOn : Cond.static yX5_goesOn ∈ wsL_law := wsL_of (List.mem_of_getElem? (i := 194) (by decide +kernel)) rfl
theorem mc_X3_cellOf : Cond.code yX3_cellOf cX3_cellOf 3 (some .int) ∈ wsL_law := wsL_of (List.mem_append_left _ (List.mem_of_getElem? (i := 199) rfl)) rfl
theorem mn_X3_cellOf : Cond.instanceMethod yX3_cellOf ∈ wsL_law := wsL_of (List.mem_of_getElem? (i := 197) (by decide +kernel)) rfl
theorem mv_X3_cellOf : Cond.selects RX3 yX3_cellOf yX3_cellOf ∈ wsL_law := wsL_of (List.mem_of_getElem? (i := 198) (by decide +kernel)) rfl
theorem mc_X5_number : Cond.code yX5_number cX5_number 5 (some .int) ∈ wsL_law := wsL_of (List.mem_append_left _ (List.mem_of_getElem? (i := 202) rfl)) rfl
theorem ms_X5_number : Cond.static yX5_number ∈ wsL_law := wsL_of (List.mem_of_getElem? (i := 201) (by decide +kernel)) rfl
theorem mc_X1_clear : Cond.code yX1_clear cX1_clear 1 none ∈ wsL_law := wsL_of (List.mem_append_left _ (List.mem_of_getElem? (i := 206) rfl)) rfl
theorem mn_X1_clear : Cond.instanceMethod yX1_clear ∈ wsL_law := wsL_of (List.mem_of_getElem? (i := 204) (by decide +kernel)) rfl
theorem mv_X1_clear : Cond.selects RX1 yX1_clear yX1_clear ∈ wsL_law := wsL_of (List.mem_of_getElem? (i := 205) (by decide +kernel)) rfl
theorem mc_X2_clear : Cond.code yX2_clear cX2_clear 1 none ∈ wsL_law := wsL_of (List.mem_append_left _ (List.mem_of_getElem? (i := 210) rfl)) rfl
theorem mn_X2_clear : Cond.instanceMethod yX2_clear ∈ wsL_law := wsL_of (List.mem_of_getElem? (i := 208) (by decide +kernel)) rfl
theorem mv_X2_clear : Cond.selects RX2 yX2_clear yX2_clear ∈ wsL_law := wsL_of (List.mem_of_getElem? (i := 209) (by decide +kernel)) rfl
theorem mc_X5_read : Cond.code yX5_read cX5_read 6 none ∈ wsL_law := wsL_of (List.mem_append_left _ (List.mem_of_getElem? (i := 213) rfl)) rfl
theorem ms_X5_read : Cond.static yX5_read ∈ wsL_law := wsL_of (List.mem_of_getElem? (i := 212) (by decide +kernel)) rfl
theorem mc_X6_clear : Cond.code yX6_clear cX6_clear 1 none ∈ wsL_law := wsL_of (List.mem_append_left _ (List.mem_of_getElem? (i := 217) rfl)) rfl
theorem mn_X6_clear : Cond.instanceMethod yX6_clear ∈ wsL_law := wsL_of (List.mem_of_getElem? (i := 215) (by decide +kernel)) rfl
theorem mv_X6_clear : Cond.selects RX6 yX6_clear yX6_clear ∈ wsL_law := wsL_of (List.mem_of_getElem? (i := 216) (by decide +kernel)) rfl
theorem mc_X6_add : Cond.code yX6_add cX6_add 2 none ∈ wsL_law := wsL_of (List.mem_append_left _ (List.mem_of_getElem? (i := 221) rfl)) rfl
theorem mn_X6_add : Cond.instanceMethod yX6_add ∈ wsL_law := wsL_of (List.mem_of_getElem? (i := 219) (by decide +kernel)) rfl
theorem mv_X6_add : Cond.selects RX6 yX6_add yX6_add ∈ wsL_law := wsL_of (List.mem_of_getElem? (i := 220) (by decide +kernel)) rfl
theorem mc_X6_count : Cond.code yX6_count cX6_count 1 (some .int) ∈ wsL_law := wsL_of (List.mem_append_left _ (List.mem_of_getElem? (i := 225) rfl)) rfl
theorem mn_X6_count : Cond.instanceMethod yX6_count ∈ wsL_law := wsL_of (List.mem_of_getElem? (i := 223) (by decide +kernel)) rfl
theorem mv_X6_count : Cond.selects RX6 yX6_count yX6_count ∈ wsL_law := wsL_of (List.mem_of_getElem? (i := 224) (by decide +kernel)) rfl
theorem mc_X7_weight : Cond.code yX7_weight cX7_weight 2 (some .int) ∈ wsL_law := wsL_of (List.mem_append_left _ (List.mem_of_getElem? (i := 229) rfl)) rfl
theorem mn_X7_weight : Cond.instanceMethod yX7_weight ∈ wsL_law := wsL_of (List.mem_of_getElem? (i := 227) (by decide +kernel)) rfl
theorem mv_X7_weight : Cond.selects RX7 yX7_weight yX7_weight ∈ wsL_law := wsL_of (List.mem_of_getElem? (i := 228) (by decide +kernel)) rfl
theorem mc_X6_has : Cond.code yX6_has cX6_has 2 (some .boolean) ∈ wsL_law := wsL_of (List.mem_append_left _ (List.mem_of_getElem? (i := 233) rfl)) rfl
theorem mn_X6_has : Cond.instanceMethod yX6_has ∈ wsL_law := wsL_of (List.mem_of_getElem? (i := 231) (by decide +kernel)) rfl
theorem mv_X6_has : Cond.selects RX6 yX6_has yX6_has ∈ wsL_law := wsL_of (List.mem_of_getElem? (i := 232) (by decide +kernel)) rfl
theorem mc_X6_weightOf : Cond.code yX6_weightOf cX6_weightOf 2 (some .int) ∈ wsL_law := wsL_of (List.mem_append_left _ (List.mem_of_getElem? (i := 237) rfl)) rfl
theorem mn_X6_weightOf : Cond.instanceMethod yX6_weightOf ∈ wsL_law := wsL_of (List.mem_of_getElem? (i := 235) (by decide +kernel)) rfl
theorem mv_X6_weightOf : Cond.selects RX6 yX6_weightOf yX6_weightOf ∈ wsL_law := wsL_of (List.mem_of_getElem? (i := 236) (by decide +kernel)) rfl
theorem mc_X7_weigh : Cond.code yX7_weigh cX7_weigh 4 (some .int) ∈ wsL_law := wsL_of (List.mem_append_right _ (List.mem_append_left _ (List.mem_of_getElem? (i := 2) rfl))) rfl
theorem mn_X7_weigh : Cond.instanceMethod yX7_weigh ∈ wsL_law := wsL_of (List.mem_of_getElem? (i := 240) (by decide +kernel)) rfl
theorem mv_X7_weigh : Cond.selects RX7 yX7_weigh yX7_weigh ∈ wsL_law := wsL_of (List.mem_of_getElem? (i := 241) (by decide +kernel)) rfl
theorem mc_X6_setWeight : Cond.code yX6_setWeight cX6_setWeight 3 none ∈ wsL_law := wsL_of (List.mem_append_right _ (List.mem_append_left _ (List.mem_of_getElem? (i := 6) rfl))) rfl
theorem mn_X6_setWeight : Cond.instanceMethod yX6_setWeight ∈ wsL_law := wsL_of (List.mem_of_getElem? (i := 244) (by decide +kernel)) rfl
theorem mv_X6_setWeight : Cond.selects RX6 yX6_setWeight yX6_setWeight ∈ wsL_law := wsL_of (List.mem_of_getElem? (i := 245) (by decide +kernel)) rfl
theorem mc_X7_hand : Cond.code yX7_hand cX7_hand 3 (some .int) ∈ wsL_law := wsL_of (List.mem_append_right _ (List.mem_append_left _ (List.mem_of_getElem? (i := 10) rfl))) rfl
theorem mn_X7_hand : Cond.instanceMethod yX7_hand ∈ wsL_law := wsL_of (List.mem_of_getElem? (i := 248) (by decide +kernel)) rfl
theorem mv_X7_hand : Cond.selects RX7 yX7_hand yX7_hand ∈ wsL_law := wsL_of (List.mem_of_getElem? (i := 249) (by decide +kernel)) rfl
theorem mc_X7_isKind : Cond.code yX7_isKind cX7_isKind 1 (some .boolean) ∈ wsL_law := wsL_of (List.mem_append_right _ (List.mem_append_left _ (List.mem_of_getElem? (i := 13) rfl))) rfl
theorem ms_X7_isKind : Cond.static yX7_isKind ∈ wsL_law := wsL_of (List.mem_of_getElem? (i := 252) (by decide +kernel)) rfl
theorem mc_X1_add : Cond.code yX1_add cX1_add 3 (some .int) ∈ wsL_law := wsL_of (List.mem_append_right _ (List.mem_append_left _ (List.mem_of_getElem? (i := 17) rfl))) rfl
theorem mn_X1_add : Cond.instanceMethod yX1_add ∈ wsL_law := wsL_of (List.mem_of_getElem? (i := 255) (by decide +kernel)) rfl
theorem mv_X1_add : Cond.selects RX1 yX1_add yX1_add ∈ wsL_law := wsL_of (List.mem_of_getElem? (i := 256) (by decide +kernel)) rfl
theorem mc_X7_ofHand : Cond.code yX7_ofHand cX7_ofHand 3 (some .int) ∈ wsL_law := wsL_of (List.mem_append_right _ (List.mem_append_left _ (List.mem_of_getElem? (i := 21) rfl))) rfl
theorem mn_X7_ofHand : Cond.instanceMethod yX7_ofHand ∈ wsL_law := wsL_of (List.mem_of_getElem? (i := 259) (by decide +kernel)) rfl
theorem mv_X7_ofHand : Cond.selects RX7 yX7_ofHand yX7_ofHand ∈ wsL_law := wsL_of (List.mem_of_getElem? (i := 260) (by decide +kernel)) rfl
theorem mc_X1_has : Cond.code yX1_has cX1_has 2 (some .boolean) ∈ wsL_law := wsL_of (List.mem_append_right _ (List.mem_append_left _ (List.mem_of_getElem? (i := 25) rfl))) rfl
theorem mn_X1_has : Cond.instanceMethod yX1_has ∈ wsL_law := wsL_of (List.mem_of_getElem? (i := 263) (by decide +kernel)) rfl
theorem mv_X1_has : Cond.selects RX1 yX1_has yX1_has ∈ wsL_law := wsL_of (List.mem_of_getElem? (i := 264) (by decide +kernel)) rfl
theorem mc_X7_isFirstOrSecond : Cond.code yX7_isFirstOrSecond cX7_isFirstOrSecond 1 (some .boolean) ∈ wsL_law := wsL_of (List.mem_append_right _ (List.mem_append_left _ (List.mem_of_getElem? (i := 28) rfl))) rfl
theorem ms_X7_isFirstOrSecond : Cond.static yX7_isFirstOrSecond ∈ wsL_law := wsL_of (List.mem_of_getElem? (i := 267) (by decide +kernel)) rfl
theorem mc_X1_kindOf : Cond.code yX1_kindOf cX1_kindOf 2 (some .int) ∈ wsL_law := wsL_of (List.mem_append_right _ (List.mem_append_left _ (List.mem_of_getElem? (i := 32) rfl))) rfl
theorem mn_X1_kindOf : Cond.instanceMethod yX1_kindOf ∈ wsL_law := wsL_of (List.mem_of_getElem? (i := 270) (by decide +kernel)) rfl
theorem mv_X1_kindOf : Cond.selects RX1 yX1_kindOf yX1_kindOf ∈ wsL_law := wsL_of (List.mem_of_getElem? (i := 271) (by decide +kernel)) rfl
theorem mc_X1_partOf : Cond.code yX1_partOf cX1_partOf 2 (some .int) ∈ wsL_law := wsL_of (List.mem_append_right _ (List.mem_append_left _ (List.mem_of_getElem? (i := 37) rfl))) rfl
theorem mn_X1_partOf : Cond.instanceMethod yX1_partOf ∈ wsL_law := wsL_of (List.mem_of_getElem? (i := 275) (by decide +kernel)) rfl
theorem mv_X1_partOf : Cond.selects RX1 yX1_partOf yX1_partOf ∈ wsL_law := wsL_of (List.mem_of_getElem? (i := 276) (by decide +kernel)) rfl
theorem mc_X7_tells : Cond.code yX7_tells cX7_tells 4 (some .int) ∈ wsL_law := wsL_of (List.mem_append_right _ (List.mem_append_left _ (List.mem_of_getElem? (i := 41) rfl))) rfl
theorem mn_X7_tells : Cond.instanceMethod yX7_tells ∈ wsL_law := wsL_of (List.mem_of_getElem? (i := 279) (by decide +kernel)) rfl
theorem mv_X7_tells : Cond.selects RX7 yX7_tells yX7_tells ∈ wsL_law := wsL_of (List.mem_of_getElem? (i := 280) (by decide +kernel)) rfl
theorem mc_X1_feelsHeavier : Cond.code yX1_feelsHeavier cX1_feelsHeavier 5 (some .boolean) ∈ wsL_law := wsL_of (List.mem_append_right _ (List.mem_append_left _ (List.mem_of_getElem? (i := 45) rfl))) rfl
theorem mn_X1_feelsHeavier : Cond.instanceMethod yX1_feelsHeavier ∈ wsL_law := wsL_of (List.mem_of_getElem? (i := 283) (by decide +kernel)) rfl
theorem mv_X1_feelsHeavier : Cond.selects RX1 yX1_feelsHeavier yX1_feelsHeavier ∈ wsL_law := wsL_of (List.mem_of_getElem? (i := 284) (by decide +kernel)) rfl
theorem mc_X1_timesOf : Cond.code yX1_timesOf cX1_timesOf 2 (some .int) ∈ wsL_law := wsL_of (List.mem_append_right _ (List.mem_append_left _ (List.mem_of_getElem? (i := 49) rfl))) rfl
theorem mn_X1_timesOf : Cond.instanceMethod yX1_timesOf ∈ wsL_law := wsL_of (List.mem_of_getElem? (i := 288) (by decide +kernel)) rfl
theorem mv_X1_timesOf : Cond.selects RX1 yX1_timesOf yX1_timesOf ∈ wsL_law := wsL_sel (List.mem_of_getElem? (i := 1) (by decide +kernel))
theorem mc_X7_alike : Cond.code yX7_alike cX7_alike 3 (some .int) ∈ wsL_law := wsL_of (List.mem_append_right _ (List.mem_append_left _ (List.mem_of_getElem? (i := 55) rfl))) rfl
theorem mn_X7_alike : Cond.instanceMethod yX7_alike ∈ wsL_law := wsL_of (List.mem_of_getElem? (i := 293) (by decide +kernel)) rfl
theorem mv_X7_alike : Cond.selects RX7 yX7_alike yX7_alike ∈ wsL_law := wsL_of (List.mem_of_getElem? (i := 294) (by decide +kernel)) rfl
theorem mc_X4_lay : Cond.code yX4_lay cX4_lay 6 none ∈ wsL_law := wsL_of (List.mem_append_right _ (List.mem_append_left _ (List.mem_of_getElem? (i := 59) rfl))) rfl
theorem mn_X4_lay : Cond.instanceMethod yX4_lay ∈ wsL_law := wsL_of (List.mem_of_getElem? (i := 297) (by decide +kernel)) rfl
theorem mv_X4_lay : Cond.selects RX4 yX4_lay yX4_lay ∈ wsL_law := wsL_of (List.mem_of_getElem? (i := 298) (by decide +kernel)) rfl
theorem mc_J9_min_7cf53 : Cond.code yJ9_min_7cf53 cJ9_min_7cf53 2 (some .int) ∈ wsL_law := wsL_of (List.mem_append_right _ (List.mem_append_left _ (List.mem_of_getElem? (i := 63) rfl))) rfl
theorem ms_J9_min_7cf53 : Cond.static yJ9_min_7cf53 ∈ wsL_law := wsL_of (List.mem_of_getElem? (i := 302) (by decide +kernel)) rfl
theorem mc_X1_feelsAlike : Cond.code yX1_feelsAlike cX1_feelsAlike 4 (some .boolean) ∈ wsL_law := wsL_of (List.mem_append_right _ (List.mem_append_left _ (List.mem_of_getElem? (i := 69) rfl))) rfl
theorem mn_X1_feelsAlike : Cond.instanceMethod yX1_feelsAlike ∈ wsL_law := wsL_of (List.mem_of_getElem? (i := 307) (by decide +kernel)) rfl
theorem mv_X1_feelsAlike : Cond.selects RX1 yX1_feelsAlike yX1_feelsAlike ∈ wsL_law := wsL_of (List.mem_of_getElem? (i := 308) (by decide +kernel)) rfl
theorem mc_X4_alikeTo : Cond.code yX4_alikeTo cX4_alikeTo 2 (some .int) ∈ wsL_law := wsL_of (List.mem_append_right _ (List.mem_append_left _ (List.mem_of_getElem? (i := 74) rfl))) rfl
theorem mn_X4_alikeTo : Cond.instanceMethod yX4_alikeTo ∈ wsL_law := wsL_of (List.mem_of_getElem? (i := 312) (by decide +kernel)) rfl
theorem mv_X4_alikeTo : Cond.selects RX4 yX4_alikeTo yX4_alikeTo ∈ wsL_law := wsL_of (List.mem_of_getElem? (i := 313) (by decide +kernel)) rfl
theorem mc_X4_has : Cond.code yX4_has cX4_has 2 (some .boolean) ∈ wsL_law := wsL_of (List.mem_append_right _ (List.mem_append_left _ (List.mem_of_getElem? (i := 78) rfl))) rfl
theorem mn_X4_has : Cond.instanceMethod yX4_has ∈ wsL_law := wsL_of (List.mem_of_getElem? (i := 317) (by decide +kernel)) rfl
theorem mv_X4_has : Cond.selects RX4 yX4_has yX4_has ∈ wsL_law := wsL_sel (List.mem_of_getElem? (i := 2) (by decide +kernel))
theorem mc_X7_finer : Cond.code yX7_finer cX7_finer 3 (some .int) ∈ wsL_law := wsL_of (List.mem_append_right _ (List.mem_append_left _ (List.mem_of_getElem? (i := 82) rfl))) rfl
theorem mn_X7_finer : Cond.instanceMethod yX7_finer ∈ wsL_law := wsL_of (List.mem_of_getElem? (i := 320) (by decide +kernel)) rfl
theorem mv_X7_finer : Cond.selects RX7 yX7_finer yX7_finer ∈ wsL_law := wsL_of (List.mem_of_getElem? (i := 321) (by decide +kernel)) rfl
theorem mc_X4_isFinerThan : Cond.code yX4_isFinerThan cX4_isFinerThan 4 (some .boolean) ∈ wsL_law := wsL_of (List.mem_append_right _ (List.mem_append_left _ (List.mem_of_getElem? (i := 86) rfl))) rfl
theorem mn_X4_isFinerThan : Cond.instanceMethod yX4_isFinerThan ∈ wsL_law := wsL_of (List.mem_of_getElem? (i := 324) (by decide +kernel)) rfl
theorem mv_X4_isFinerThan : Cond.selects RX4 yX4_isFinerThan yX4_isFinerThan ∈ wsL_law := wsL_of (List.mem_of_getElem? (i := 325) (by decide +kernel)) rfl
theorem mc_X4_lighterThan : Cond.code yX4_lighterThan cX4_lighterThan 2 (some .int) ∈ wsL_law := wsL_of (List.mem_append_right _ (List.mem_append_left _ (List.mem_of_getElem? (i := 90) rfl))) rfl
theorem mn_X4_lighterThan : Cond.instanceMethod yX4_lighterThan ∈ wsL_law := wsL_of (List.mem_of_getElem? (i := 328) (by decide +kernel)) rfl
theorem mv_X4_lighterThan : Cond.selects RX4 yX4_lighterThan yX4_lighterThan ∈ wsL_law := wsL_of (List.mem_of_getElem? (i := 329) (by decide +kernel)) rfl
theorem mc_X7_way : Cond.code yX7_way cX7_way 5 (some .int) ∈ wsL_law := wsL_of (List.mem_append_right _ (List.mem_append_left _ (List.mem_of_getElem? (i := 94) rfl))) rfl
theorem mn_X7_way : Cond.instanceMethod yX7_way ∈ wsL_law := wsL_of (List.mem_of_getElem? (i := 332) (by decide +kernel)) rfl
theorem mv_X7_way : Cond.selects RX7 yX7_way yX7_way ∈ wsL_law := wsL_of (List.mem_of_getElem? (i := 333) (by decide +kernel)) rfl
theorem mc_X4_fewestSwaps : Cond.code yX4_fewestSwaps cX4_fewestSwaps 4 (some .int) ∈ wsL_law := wsL_of (List.mem_append_right _ (List.mem_append_left _ (List.mem_of_getElem? (i := 98) rfl))) rfl
theorem mn_X4_fewestSwaps : Cond.instanceMethod yX4_fewestSwaps ∈ wsL_law := wsL_of (List.mem_of_getElem? (i := 336) (by decide +kernel)) rfl
theorem mv_X4_fewestSwaps : Cond.selects RX4 yX4_fewestSwaps yX4_fewestSwaps ∈ wsL_law := wsL_of (List.mem_of_getElem? (i := 337) (by decide +kernel)) rfl
theorem mc_X4_within : Cond.code yX4_within cX4_within 5 (some .int) ∈ wsL_law := wsL_of (List.mem_append_right _ (List.mem_append_left _ (List.mem_of_getElem? (i := 102) rfl))) rfl
theorem mn_X4_within : Cond.instanceMethod yX4_within ∈ wsL_law := wsL_of (List.mem_of_getElem? (i := 340) (by decide +kernel)) rfl
theorem mv_X4_within : Cond.selects RX4 yX4_within yX4_within ∈ wsL_law := wsL_of (List.mem_of_getElem? (i := 341) (by decide +kernel)) rfl
theorem mc_X4_alikeToAny : Cond.code yX4_alikeToAny cX4_alikeToAny 4 (some .int) ∈ wsL_law := wsL_of (List.mem_append_right _ (List.mem_append_left _ (List.mem_of_getElem? (i := 106) rfl))) rfl
theorem mn_X4_alikeToAny : Cond.instanceMethod yX4_alikeToAny ∈ wsL_law := wsL_of (List.mem_of_getElem? (i := 345) (by decide +kernel)) rfl
theorem mv_X4_alikeToAny : Cond.selects RX4 yX4_alikeToAny yX4_alikeToAny ∈ wsL_law := wsL_sel (List.mem_of_getElem? (i := 3) (by decide +kernel))
theorem mc_X7_isIn : Cond.code yX7_isIn cX7_isIn 2 (some .boolean) ∈ wsL_law := wsL_of (List.mem_append_right _ (List.mem_append_left _ (List.mem_of_getElem? (i := 109) rfl))) rfl
theorem ms_X7_isIn : Cond.static yX7_isIn ∈ wsL_law := wsL_of (List.mem_of_getElem? (i := 348) (by decide +kernel)) rfl
theorem mc_X4_behindSwaps : Cond.code yX4_behindSwaps cX4_behindSwaps 7 (some .int) ∈ wsL_law := wsL_of (List.mem_append_right _ (List.mem_append_left _ (List.mem_of_getElem? (i := 113) rfl))) rfl
theorem mn_X4_behindSwaps : Cond.instanceMethod yX4_behindSwaps ∈ wsL_law := wsL_of (List.mem_of_getElem? (i := 351) (by decide +kernel)) rfl
theorem mv_X4_behindSwaps : Cond.selects RX4 yX4_behindSwaps yX4_behindSwaps ∈ wsL_law := wsL_of (List.mem_of_getElem? (i := 352) (by decide +kernel)) rfl
theorem mc_X4_leastIn : Cond.code yX4_leastIn cX4_leastIn 3 (some .int) ∈ wsL_law := wsL_of (List.mem_append_right _ (List.mem_append_left _ (List.mem_of_getElem? (i := 119) rfl))) rfl
theorem mn_X4_leastIn : Cond.instanceMethod yX4_leastIn ∈ wsL_law := wsL_of (List.mem_of_getElem? (i := 358) (by decide +kernel)) rfl
theorem mv_X4_leastIn : Cond.selects RX4 yX4_leastIn yX4_leastIn ∈ wsL_law := wsL_sel (List.mem_of_getElem? (i := 4) (by decide +kernel))
theorem mc_X7_noon : Cond.code yX7_noon cX7_noon 4 (some .int) ∈ wsL_law := wsL_of (List.mem_append_right _ (List.mem_append_left _ (List.mem_of_getElem? (i := 123) rfl))) rfl
theorem mn_X7_noon : Cond.instanceMethod yX7_noon ∈ wsL_law := wsL_of (List.mem_of_getElem? (i := 361) (by decide +kernel)) rfl
theorem mv_X7_noon : Cond.selects RX7 yX7_noon yX7_noon ∈ wsL_law := wsL_of (List.mem_of_getElem? (i := 362) (by decide +kernel)) rfl
theorem mc_X7_gain : Cond.code yX7_gain cX7_gain 11 (some .int) ∈ wsL_law := wsL_of (List.mem_append_right _ (List.mem_append_left _ (List.mem_of_getElem? (i := 128) rfl))) rfl
theorem mn_X7_gain : Cond.instanceMethod yX7_gain ∈ wsL_law := wsL_of (List.mem_of_getElem? (i := 366) (by decide +kernel)) rfl
theorem mv_X7_gain : Cond.selects RX7 yX7_gain yX7_gain ∈ wsL_law := wsL_of (List.mem_of_getElem? (i := 367) (by decide +kernel)) rfl
theorem mc_X7_swappedUp : Cond.code yX7_swappedUp cX7_swappedUp 4 (some .int) ∈ wsL_law := wsL_of (List.mem_append_right _ (List.mem_append_left _ (List.mem_of_getElem? (i := 132) rfl))) rfl
theorem mn_X7_swappedUp : Cond.instanceMethod yX7_swappedUp ∈ wsL_law := wsL_of (List.mem_of_getElem? (i := 371) (by decide +kernel)) rfl
theorem mv_X7_swappedUp : Cond.selects RX7 yX7_swappedUp yX7_swappedUp ∈ wsL_law := wsL_sel (List.mem_of_getElem? (i := 5) (by decide +kernel))
theorem mc_X6_greatestOf : Cond.code yX6_greatestOf cX6_greatestOf 4 (some .int) ∈ wsL_law := wsL_of (List.mem_append_right _ (List.mem_append_left _ (List.mem_of_getElem? (i := 137) rfl))) rfl
theorem mn_X6_greatestOf : Cond.instanceMethod yX6_greatestOf ∈ wsL_law := wsL_of (List.mem_of_getElem? (i := 375) (by decide +kernel)) rfl
theorem mv_X6_greatestOf : Cond.selects RX6 yX6_greatestOf yX6_greatestOf ∈ wsL_law := wsL_of (List.mem_of_getElem? (i := 376) (by decide +kernel)) rfl
theorem mc_J9_max_7cf53 : Cond.code yJ9_max_7cf53 cJ9_max_7cf53 2 (some .int) ∈ wsL_law := wsL_of (List.mem_append_right _ (List.mem_append_left _ (List.mem_of_getElem? (i := 142) rfl))) rfl
theorem ms_J9_max_7cf53 : Cond.static yJ9_max_7cf53 ∈ wsL_law := wsL_of (List.mem_of_getElem? (i := 381) (by decide +kernel)) rfl
theorem mc_X7_saying : Cond.code yX7_saying cX7_saying 5 (some .int) ∈ wsL_law := wsL_of (List.mem_append_right _ (List.mem_append_left _ (List.mem_of_getElem? (i := 146) rfl))) rfl
theorem mn_X7_saying : Cond.instanceMethod yX7_saying ∈ wsL_law := wsL_of (List.mem_of_getElem? (i := 384) (by decide +kernel)) rfl
theorem mv_X7_saying : Cond.selects RX7 yX7_saying yX7_saying ∈ wsL_law := wsL_of (List.mem_of_getElem? (i := 385) (by decide +kernel)) rfl
theorem mc_X2_add : Cond.code yX2_add cX2_add 5 (some .int) ∈ wsL_law := wsL_of (List.mem_append_right _ (List.mem_append_left _ (List.mem_of_getElem? (i := 150) rfl))) rfl
theorem mn_X2_add : Cond.instanceMethod yX2_add ∈ wsL_law := wsL_of (List.mem_of_getElem? (i := 388) (by decide +kernel)) rfl
theorem mv_X2_add : Cond.selects RX2 yX2_add yX2_add ∈ wsL_law := wsL_of (List.mem_of_getElem? (i := 389) (by decide +kernel)) rfl
theorem mc_X7_back : Cond.code yX7_back cX7_back 2 (some .int) ∈ wsL_law := wsL_of (List.mem_append_right _ (List.mem_append_left _ (List.mem_of_getElem? (i := 154) rfl))) rfl
theorem mn_X7_back : Cond.instanceMethod yX7_back ∈ wsL_law := wsL_of (List.mem_of_getElem? (i := 392) (by decide +kernel)) rfl
theorem mv_X7_back : Cond.selects RX7 yX7_back yX7_back ∈ wsL_law := wsL_of (List.mem_of_getElem? (i := 393) (by decide +kernel)) rfl
theorem mc_X2_count : Cond.code yX2_count cX2_count 1 (some .int) ∈ wsL_law := wsL_of (List.mem_append_right _ (List.mem_append_left _ (List.mem_of_getElem? (i := 158) rfl))) rfl
theorem mn_X2_count : Cond.instanceMethod yX2_count ∈ wsL_law := wsL_of (List.mem_of_getElem? (i := 396) (by decide +kernel)) rfl
theorem mv_X2_count : Cond.selects RX2 yX2_count yX2_count ∈ wsL_law := wsL_of (List.mem_of_getElem? (i := 397) (by decide +kernel)) rfl
theorem mc_X2_takeBack : Cond.code yX2_takeBack cX2_takeBack 2 (some .int) ∈ wsL_law := wsL_of (List.mem_append_right _ (List.mem_append_left _ (List.mem_of_getElem? (i := 162) rfl))) rfl
theorem mn_X2_takeBack : Cond.instanceMethod yX2_takeBack ∈ wsL_law := wsL_of (List.mem_of_getElem? (i := 400) (by decide +kernel)) rfl
theorem mv_X2_takeBack : Cond.selects RX2 yX2_takeBack yX2_takeBack ∈ wsL_law := wsL_of (List.mem_of_getElem? (i := 401) (by decide +kernel)) rfl
theorem mc_X7_untrue : Cond.code yX7_untrue cX7_untrue 5 (some .int) ∈ wsL_law := wsL_of (List.mem_append_right _ (List.mem_append_left _ (List.mem_of_getElem? (i := 167) rfl))) rfl
theorem mn_X7_untrue : Cond.instanceMethod yX7_untrue ∈ wsL_law := wsL_of (List.mem_of_getElem? (i := 405) (by decide +kernel)) rfl
theorem mv_X7_untrue : Cond.selects RX7 yX7_untrue yX7_untrue ∈ wsL_law := wsL_of (List.mem_of_getElem? (i := 406) (by decide +kernel)) rfl
theorem mc_X2_firstOf : Cond.code yX2_firstOf cX2_firstOf 2 (some .int) ∈ wsL_law := wsL_of (List.mem_append_right _ (List.mem_append_left _ (List.mem_of_getElem? (i := 171) rfl))) rfl
theorem mn_X2_firstOf : Cond.instanceMethod yX2_firstOf ∈ wsL_law := wsL_of (List.mem_of_getElem? (i := 409) (by decide +kernel)) rfl
theorem mv_X2_firstOf : Cond.selects RX2 yX2_firstOf yX2_firstOf ∈ wsL_law := wsL_of (List.mem_of_getElem? (i := 410) (by decide +kernel)) rfl
theorem mc_X2_has : Cond.code yX2_has cX2_has 2 (some .boolean) ∈ wsL_law := wsL_of (List.mem_append_right _ (List.mem_append_left _ (List.mem_of_getElem? (i := 175) rfl))) rfl
theorem mn_X2_has : Cond.instanceMethod yX2_has ∈ wsL_law := wsL_of (List.mem_of_getElem? (i := 414) (by decide +kernel)) rfl
theorem mv_X2_has : Cond.selects RX2 yX2_has yX2_has ∈ wsL_law := wsL_sel (List.mem_of_getElem? (i := 6) (by decide +kernel))
theorem mc_X2_secondOf : Cond.code yX2_secondOf cX2_secondOf 2 (some .int) ∈ wsL_law := wsL_of (List.mem_append_right _ (List.mem_append_left _ (List.mem_of_getElem? (i := 179) rfl))) rfl
theorem mn_X2_secondOf : Cond.instanceMethod yX2_secondOf ∈ wsL_law := wsL_of (List.mem_of_getElem? (i := 417) (by decide +kernel)) rfl
theorem mv_X2_secondOf : Cond.selects RX2 yX2_secondOf yX2_secondOf ∈ wsL_law := wsL_of (List.mem_of_getElem? (i := 418) (by decide +kernel)) rfl
theorem mc_X2_isFalse : Cond.code yX2_isFalse cX2_isFalse 5 (some .boolean) ∈ wsL_law := wsL_of (List.mem_append_right _ (List.mem_append_left _ (List.mem_of_getElem? (i := 183) rfl))) rfl
theorem mn_X2_isFalse : Cond.instanceMethod yX2_isFalse ∈ wsL_law := wsL_of (List.mem_of_getElem? (i := 421) (by decide +kernel)) rfl
theorem mv_X2_isFalse : Cond.selects RX2 yX2_isFalse yX2_isFalse ∈ wsL_law := wsL_of (List.mem_of_getElem? (i := 422) (by decide +kernel)) rfl
theorem mc_X7_leaves : Cond.code yX7_leaves cX7_leaves 7 (some .int) ∈ wsL_law := wsL_of (List.mem_append_right _ (List.mem_append_left _ (List.mem_of_getElem? (i := 189) rfl))) rfl
theorem mn_X7_leaves : Cond.instanceMethod yX7_leaves ∈ wsL_law := wsL_of (List.mem_of_getElem? (i := 427) (by decide +kernel)) rfl
theorem mv_X7_leaves : Cond.selects RX7 yX7_leaves yX7_leaves ∈ wsL_law := wsL_of (List.mem_of_getElem? (i := 428) (by decide +kernel)) rfl
theorem mc_X7_falseByWeight : Cond.code yX7_falseByWeight cX7_falseByWeight 9 (some .int) ∈ wsL_law := wsL_of (List.mem_append_right _ (List.mem_append_left _ (List.mem_of_getElem? (i := 193) rfl))) rfl
theorem mn_X7_falseByWeight : Cond.instanceMethod yX7_falseByWeight ∈ wsL_law := wsL_of (List.mem_of_getElem? (i := 432) (by decide +kernel)) rfl
theorem mv_X7_falseByWeight : Cond.selects RX7 yX7_falseByWeight yX7_falseByWeight ∈ wsL_law := wsL_sel (List.mem_of_getElem? (i := 7) (by decide +kernel))
theorem mc_X7_breaks : Cond.code yX7_breaks cX7_breaks 7 (some .int) ∈ wsL_law := wsL_of (List.mem_append_right _ (List.mem_append_left _ (List.mem_of_getElem? (i := 197) rfl))) rfl
theorem mn_X7_breaks : Cond.instanceMethod yX7_breaks ∈ wsL_law := wsL_of (List.mem_of_getElem? (i := 435) (by decide +kernel)) rfl
theorem mv_X7_breaks : Cond.selects RX7 yX7_breaks yX7_breaks ∈ wsL_law := wsL_of (List.mem_of_getElem? (i := 436) (by decide +kernel)) rfl
theorem mc_X7_rows : Cond.code yX7_rows cX7_rows 3 (some .int) ∈ wsL_law := wsL_of (List.mem_append_right _ (List.mem_append_left _ (List.mem_of_getElem? (i := 201) rfl))) rfl
theorem mn_X7_rows : Cond.instanceMethod yX7_rows ∈ wsL_law := wsL_of (List.mem_of_getElem? (i := 439) (by decide +kernel)) rfl
theorem mv_X7_rows : Cond.selects RX7 yX7_rows yX7_rows ∈ wsL_law := wsL_of (List.mem_of_getElem? (i := 440) (by decide +kernel)) rfl
theorem mc_X4_countOrders : Cond.code yX4_countOrders cX4_countOrders 5 (some .int) ∈ wsL_law := wsL_of (List.mem_append_right _ (List.mem_append_left _ (List.mem_of_getElem? (i := 205) rfl))) rfl
theorem mn_X4_countOrders : Cond.instanceMethod yX4_countOrders ∈ wsL_law := wsL_of (List.mem_of_getElem? (i := 443) (by decide +kernel)) rfl
theorem mv_X4_countOrders : Cond.selects RX4 yX4_countOrders yX4_countOrders ∈ wsL_law := wsL_of (List.mem_of_getElem? (i := 444) (by decide +kernel)) rfl
theorem mc_X4_allThings : Cond.code yX4_allThings cX4_allThings 1 (some .int) ∈ wsL_law := wsL_of (List.mem_append_right _ (List.mem_append_left _ (List.mem_of_getElem? (i := 209) rfl))) rfl
theorem mn_X4_allThings : Cond.instanceMethod yX4_allThings ∈ wsL_law := wsL_of (List.mem_of_getElem? (i := 448) (by decide +kernel)) rfl
theorem mv_X4_allThings : Cond.selects RX4 yX4_allThings yX4_allThings ∈ wsL_law := wsL_sel (List.mem_of_getElem? (i := 8) (by decide +kernel))
theorem mc_X4_placeInFirstOrder : Cond.code yX4_placeInFirstOrder cX4_placeInFirstOrder 5 (some .int) ∈ wsL_law := wsL_of (List.mem_append_right _ (List.mem_append_left _ (List.mem_of_getElem? (i := 213) rfl))) rfl
theorem mn_X4_placeInFirstOrder : Cond.instanceMethod yX4_placeInFirstOrder ∈ wsL_law := wsL_of (List.mem_of_getElem? (i := 451) (by decide +kernel)) rfl
theorem mv_X4_placeInFirstOrder : Cond.selects RX4 yX4_placeInFirstOrder yX4_placeInFirstOrder ∈ wsL_law := wsL_of (List.mem_of_getElem? (i := 452) (by decide +kernel)) rfl
theorem mc_X4_fittingBehind : Cond.code yX4_fittingBehind cX4_fittingBehind 4 (some .int) ∈ wsL_law := wsL_of (List.mem_append_right _ (List.mem_append_left _ (List.mem_of_getElem? (i := 217) rfl))) rfl
theorem mn_X4_fittingBehind : Cond.instanceMethod yX4_fittingBehind ∈ wsL_law := wsL_of (List.mem_of_getElem? (i := 456) (by decide +kernel)) rfl
theorem mv_X4_fittingBehind : Cond.selects RX4 yX4_fittingBehind yX4_fittingBehind ∈ wsL_law := wsL_sel (List.mem_of_getElem? (i := 9) (by decide +kernel))
theorem mc_X7_longest : Cond.code yX7_longest cX7_longest 2 (some .int) ∈ wsL_law := wsL_of (List.mem_append_right _ (List.mem_append_left _ (List.mem_of_getElem? (i := 221) rfl))) rfl
theorem mn_X7_longest : Cond.instanceMethod yX7_longest ∈ wsL_law := wsL_of (List.mem_of_getElem? (i := 459) (by decide +kernel)) rfl
theorem mv_X7_longest : Cond.selects RX7 yX7_longest yX7_longest ∈ wsL_law := wsL_of (List.mem_of_getElem? (i := 460) (by decide +kernel)) rfl
theorem mc_X4_longestChain : Cond.code yX4_longestChain cX4_longestChain 4 (some .int) ∈ wsL_law := wsL_of (List.mem_append_right _ (List.mem_append_left _ (List.mem_of_getElem? (i := 225) rfl))) rfl
theorem mn_X4_longestChain : Cond.instanceMethod yX4_longestChain ∈ wsL_law := wsL_of (List.mem_of_getElem? (i := 463) (by decide +kernel)) rfl
theorem mv_X4_longestChain : Cond.selects RX4 yX4_longestChain yX4_longestChain ∈ wsL_law := wsL_of (List.mem_of_getElem? (i := 464) (by decide +kernel)) rfl
theorem mc_X4_heavierThanAny : Cond.code yX4_heavierThanAny cX4_heavierThanAny 4 (some .int) ∈ wsL_law := wsL_of (List.mem_append_right _ (List.mem_append_left _ (List.mem_of_getElem? (i := 229) rfl))) rfl
theorem mn_X4_heavierThanAny : Cond.instanceMethod yX4_heavierThanAny ∈ wsL_law := wsL_of (List.mem_of_getElem? (i := 468) (by decide +kernel)) rfl
theorem mv_X4_heavierThanAny : Cond.selects RX4 yX4_heavierThanAny yX4_heavierThanAny ∈ wsL_law := wsL_sel (List.mem_of_getElem? (i := 10) (by decide +kernel))
theorem mc_X7_crowd : Cond.code yX7_crowd cX7_crowd 2 (some .int) ∈ wsL_law := wsL_of (List.mem_append_right _ (List.mem_append_left _ (List.mem_of_getElem? (i := 233) rfl))) rfl
theorem mn_X7_crowd : Cond.instanceMethod yX7_crowd ∈ wsL_law := wsL_of (List.mem_of_getElem? (i := 471) (by decide +kernel)) rfl
theorem mv_X7_crowd : Cond.selects RX7 yX7_crowd yX7_crowd ∈ wsL_law := wsL_of (List.mem_of_getElem? (i := 472) (by decide +kernel)) rfl
theorem mc_X4_greatestCrowd : Cond.code yX4_greatestCrowd cX4_greatestCrowd 3 (some .int) ∈ wsL_law := wsL_of (List.mem_append_right _ (List.mem_append_left _ (List.mem_of_getElem? (i := 237) rfl))) rfl
theorem mn_X4_greatestCrowd : Cond.instanceMethod yX4_greatestCrowd ∈ wsL_law := wsL_of (List.mem_of_getElem? (i := 475) (by decide +kernel)) rfl
theorem mv_X4_greatestCrowd : Cond.selects RX4 yX4_greatestCrowd yX4_greatestCrowd ∈ wsL_law := wsL_of (List.mem_of_getElem? (i := 476) (by decide +kernel)) rfl
theorem mc_J6_bitCount_0f7a4 : Cond.code yJ6_bitCount_0f7a4 cJ6_bitCount_0f7a4 1 (some .int) ∈ wsL_law := wsL_of (List.mem_append_right _ (List.mem_append_right _ (List.mem_append_left _ (List.mem_of_getElem? (i := 0) rfl)))) rfl
theorem ms_J6_bitCount_0f7a4 : Cond.static yJ6_bitCount_0f7a4 ∈ wsL_law := wsL_of (List.mem_of_getElem? (i := 479) (by decide +kernel)) rfl
theorem mc_X4_areAllAlike : Cond.code yX4_areAllAlike cX4_areAllAlike 3 (some .boolean) ∈ wsL_law := wsL_of (List.mem_append_right _ (List.mem_append_right _ (List.mem_append_left _ (List.mem_of_getElem? (i := 7) rfl)))) rfl
theorem mn_X4_areAllAlike : Cond.instanceMethod yX4_areAllAlike ∈ wsL_law := wsL_of (List.mem_of_getElem? (i := 486) (by decide +kernel)) rfl
theorem mv_X4_areAllAlike : Cond.selects RX4 yX4_areAllAlike yX4_areAllAlike ∈ wsL_law := wsL_sel (List.mem_of_getElem? (i := 11) (by decide +kernel))
theorem mc_X7_measure : Cond.code yX7_measure cX7_measure 5 (some .int) ∈ wsL_law := wsL_of (List.mem_append_right _ (List.mem_append_right _ (List.mem_append_left _ (List.mem_of_getElem? (i := 11) rfl)))) rfl
theorem mn_X7_measure : Cond.instanceMethod yX7_measure ∈ wsL_law := wsL_of (List.mem_of_getElem? (i := 489) (by decide +kernel)) rfl
theorem mv_X7_measure : Cond.selects RX7 yX7_measure yX7_measure ∈ wsL_law := wsL_of (List.mem_of_getElem? (i := 490) (by decide +kernel)) rfl
theorem mc_X4_othersAlikeTo : Cond.code yX4_othersAlikeTo cX4_othersAlikeTo 2 (some .int) ∈ wsL_law := wsL_of (List.mem_append_right _ (List.mem_append_right _ (List.mem_append_left _ (List.mem_of_getElem? (i := 15) rfl)))) rfl
theorem mn_X4_othersAlikeTo : Cond.instanceMethod yX4_othersAlikeTo ∈ wsL_law := wsL_of (List.mem_of_getElem? (i := 493) (by decide +kernel)) rfl
theorem mv_X4_othersAlikeTo : Cond.selects RX4 yX4_othersAlikeTo yX4_othersAlikeTo ∈ wsL_law := wsL_of (List.mem_of_getElem? (i := 494) (by decide +kernel)) rfl
theorem mc_X7_copies : Cond.code yX7_copies cX7_copies 8 (some .int) ∈ wsL_law := wsL_of (List.mem_append_right _ (List.mem_append_right _ (List.mem_append_left _ (List.mem_of_getElem? (i := 19) rfl)))) rfl
theorem mn_X7_copies : Cond.instanceMethod yX7_copies ∈ wsL_law := wsL_of (List.mem_of_getElem? (i := 497) (by decide +kernel)) rfl
theorem mv_X7_copies : Cond.selects RX7 yX7_copies yX7_copies ∈ wsL_law := wsL_of (List.mem_of_getElem? (i := 498) (by decide +kernel)) rfl
theorem mc_X7_takeHandRow : Cond.code yX7_takeHandRow cX7_takeHandRow 8 (some .int) ∈ wsL_law := wsL_of (List.mem_append_right _ (List.mem_append_right _ (List.mem_append_left _ (List.mem_of_getElem? (i := 23) rfl)))) rfl
theorem mn_X7_takeHandRow : Cond.instanceMethod yX7_takeHandRow ∈ wsL_law := wsL_of (List.mem_of_getElem? (i := 502) (by decide +kernel)) rfl
theorem mv_X7_takeHandRow : Cond.selects RX7 yX7_takeHandRow yX7_takeHandRow ∈ wsL_law := wsL_sel (List.mem_of_getElem? (i := 12) (by decide +kernel))
theorem mc_X0_clear : Cond.code yX0_clear cX0_clear 1 none ∈ wsL_law := wsL_of (List.mem_append_right _ (List.mem_append_right _ (List.mem_append_left _ (List.mem_of_getElem? (i := 27) rfl)))) rfl
theorem mn_X0_clear : Cond.instanceMethod yX0_clear ∈ wsL_law := wsL_of (List.mem_of_getElem? (i := 505) (by decide +kernel)) rfl
theorem mv_X0_clear : Cond.selects RX0 yX0_clear yX0_clear ∈ wsL_law := wsL_of (List.mem_of_getElem? (i := 506) (by decide +kernel)) rfl
theorem mc_X0_add : Cond.code yX0_add cX0_add 2 none ∈ wsL_law := wsL_of (List.mem_append_right _ (List.mem_append_right _ (List.mem_append_left _ (List.mem_of_getElem? (i := 32) rfl)))) rfl
theorem mn_X0_add : Cond.instanceMethod yX0_add ∈ wsL_law := wsL_of (List.mem_of_getElem? (i := 510) (by decide +kernel)) rfl
theorem mv_X0_add : Cond.selects RX0 yX0_add yX0_add ∈ wsL_law := wsL_of (List.mem_of_getElem? (i := 511) (by decide +kernel)) rfl
theorem mc_X0_greatestCopy : Cond.code yX0_greatestCopy cX0_greatestCopy 5 (some .int) ∈ wsL_law := wsL_of (List.mem_append_right _ (List.mem_append_right _ (List.mem_append_left _ (List.mem_of_getElem? (i := 36) rfl)))) rfl
theorem mn_X0_greatestCopy : Cond.instanceMethod yX0_greatestCopy ∈ wsL_law := wsL_of (List.mem_of_getElem? (i := 514) (by decide +kernel)) rfl
theorem mv_X0_greatestCopy : Cond.selects RX0 yX0_greatestCopy yX0_greatestCopy ∈ wsL_law := wsL_of (List.mem_of_getElem? (i := 515) (by decide +kernel)) rfl
theorem mc_X1_greatestUntold : Cond.code yX1_greatestUntold cX1_greatestUntold 4 (some .int) ∈ wsL_law := wsL_of (List.mem_append_right _ (List.mem_append_right _ (List.mem_append_left _ (List.mem_of_getElem? (i := 40) rfl)))) rfl
theorem mn_X1_greatestUntold : Cond.instanceMethod yX1_greatestUntold ∈ wsL_law := wsL_of (List.mem_of_getElem? (i := 518) (by decide +kernel)) rfl
theorem mv_X1_greatestUntold : Cond.selects RX1 yX1_greatestUntold yX1_greatestUntold ∈ wsL_law := wsL_of (List.mem_of_getElem? (i := 519) (by decide +kernel)) rfl
theorem mc_X0_leastCopy : Cond.code yX0_leastCopy cX0_leastCopy 5 (some .int) ∈ wsL_law := wsL_of (List.mem_append_right _ (List.mem_append_right _ (List.mem_append_left _ (List.mem_of_getElem? (i := 44) rfl)))) rfl
theorem mn_X0_leastCopy : Cond.instanceMethod yX0_leastCopy ∈ wsL_law := wsL_of (List.mem_of_getElem? (i := 522) (by decide +kernel)) rfl
theorem mv_X0_leastCopy : Cond.selects RX0 yX0_leastCopy yX0_leastCopy ∈ wsL_law := wsL_of (List.mem_of_getElem? (i := 523) (by decide +kernel)) rfl
theorem mc_X1_leastUntold : Cond.code yX1_leastUntold cX1_leastUntold 5 (some .int) ∈ wsL_law := wsL_of (List.mem_append_right _ (List.mem_append_right _ (List.mem_append_left _ (List.mem_of_getElem? (i := 48) rfl)))) rfl
theorem mn_X1_leastUntold : Cond.instanceMethod yX1_leastUntold ∈ wsL_law := wsL_of (List.mem_of_getElem? (i := 526) (by decide +kernel)) rfl
theorem mv_X1_leastUntold : Cond.selects RX1 yX1_leastUntold yX1_leastUntold ∈ wsL_law := wsL_of (List.mem_of_getElem? (i := 527) (by decide +kernel)) rfl
theorem mc_X7_bestRow : Cond.code yX7_bestRow cX7_bestRow 9 (some .int) ∈ wsL_law := wsL_of (List.mem_append_right _ (List.mem_append_right _ (List.mem_append_left _ (List.mem_of_getElem? (i := 52) rfl)))) rfl
theorem mn_X7_bestRow : Cond.instanceMethod yX7_bestRow ∈ wsL_law := wsL_of (List.mem_of_getElem? (i := 530) (by decide +kernel)) rfl
theorem mv_X7_bestRow : Cond.selects RX7 yX7_bestRow yX7_bestRow ∈ wsL_law := wsL_of (List.mem_of_getElem? (i := 531) (by decide +kernel)) rfl
theorem mc_X0_findBest : Cond.code yX0_findBest cX0_findBest 6 (some .int) ∈ wsL_law := wsL_of (List.mem_append_right _ (List.mem_append_right _ (List.mem_append_left _ (List.mem_of_getElem? (i := 56) rfl)))) rfl
theorem mn_X0_findBest : Cond.instanceMethod yX0_findBest ∈ wsL_law := wsL_of (List.mem_of_getElem? (i := 534) (by decide +kernel)) rfl
theorem mv_X0_findBest : Cond.selects RX0 yX0_findBest yX0_findBest ∈ wsL_law := wsL_of (List.mem_of_getElem? (i := 535) (by decide +kernel)) rfl
theorem mc_X0_sortRow : Cond.code yX0_sortRow cX0_sortRow 3 none ∈ wsL_law := wsL_of (List.mem_append_right _ (List.mem_append_right _ (List.mem_append_left _ (List.mem_of_getElem? (i := 60) rfl)))) rfl
theorem mn_X0_sortRow : Cond.instanceMethod yX0_sortRow ∈ wsL_law := wsL_of (List.mem_of_getElem? (i := 539) (by decide +kernel)) rfl
theorem mv_X0_sortRow : Cond.selects RX0 yX0_sortRow yX0_sortRow ∈ wsL_law := wsL_sel (List.mem_of_getElem? (i := 13) (by decide +kernel))
theorem mc_X0_exchange : Cond.code yX0_exchange cX0_exchange 4 none ∈ wsL_law := wsL_of (List.mem_append_right _ (List.mem_append_right _ (List.mem_append_left _ (List.mem_of_getElem? (i := 64) rfl)))) rfl
theorem mn_X0_exchange : Cond.instanceMethod yX0_exchange ∈ wsL_law := wsL_of (List.mem_of_getElem? (i := 543) (by decide +kernel)) rfl
theorem mv_X0_exchange : Cond.selects RX0 yX0_exchange yX0_exchange ∈ wsL_law := wsL_sel (List.mem_of_getElem? (i := 14) (by decide +kernel))
theorem mc_X0_spread : Cond.code yX0_spread cX0_spread 3 (some .int) ∈ wsL_law := wsL_of (List.mem_append_right _ (List.mem_append_right _ (List.mem_append_left _ (List.mem_of_getElem? (i := 68) rfl)))) rfl
theorem mn_X0_spread : Cond.instanceMethod yX0_spread ∈ wsL_law := wsL_of (List.mem_of_getElem? (i := 547) (by decide +kernel)) rfl
theorem mv_X0_spread : Cond.selects RX0 yX0_spread yX0_spread ∈ wsL_law := wsL_sel (List.mem_of_getElem? (i := 15) (by decide +kernel))
theorem mc_X0_keepAsBest : Cond.code yX0_keepAsBest cX0_keepAsBest 2 none ∈ wsL_law := wsL_of (List.mem_append_right _ (List.mem_append_right _ (List.mem_append_left _ (List.mem_of_getElem? (i := 74) rfl)))) rfl
theorem mn_X0_keepAsBest : Cond.instanceMethod yX0_keepAsBest ∈ wsL_law := wsL_of (List.mem_of_getElem? (i := 553) (by decide +kernel)) rfl
theorem mv_X0_keepAsBest : Cond.selects RX0 yX0_keepAsBest yX0_keepAsBest ∈ wsL_law := wsL_sel (List.mem_of_getElem? (i := 16) (by decide +kernel))
theorem mc_X0_toNextOrder : Cond.code yX0_toNextOrder cX0_toNextOrder 5 (some .boolean) ∈ wsL_law := wsL_of (List.mem_append_right _ (List.mem_append_right _ (List.mem_append_left _ (List.mem_of_getElem? (i := 78) rfl)))) rfl
theorem mn_X0_toNextOrder : Cond.instanceMethod yX0_toNextOrder ∈ wsL_law := wsL_of (List.mem_of_getElem? (i := 557) (by decide +kernel)) rfl
theorem mv_X0_toNextOrder : Cond.selects RX0 yX0_toNextOrder yX0_toNextOrder ∈ wsL_law := wsL_sel (List.mem_of_getElem? (i := 17) (by decide +kernel))
theorem mc_X0_inBest : Cond.code yX0_inBest cX0_inBest 2 (some .int) ∈ wsL_law := wsL_of (List.mem_append_right _ (List.mem_append_right _ (List.mem_append_left _ (List.mem_of_getElem? (i := 82) rfl)))) rfl
theorem mn_X0_inBest : Cond.instanceMethod yX0_inBest ∈ wsL_law := wsL_of (List.mem_of_getElem? (i := 560) (by decide +kernel)) rfl
theorem mv_X0_inBest : Cond.selects RX0 yX0_inBest yX0_inBest ∈ wsL_law := wsL_of (List.mem_of_getElem? (i := 561) (by decide +kernel)) rfl
theorem mc_X7_even : Cond.code yX7_even cX7_even 9 (some .int) ∈ wsL_law := wsL_of (List.mem_append_right _ (List.mem_append_right _ (List.mem_append_left _ (List.mem_of_getElem? (i := 86) rfl)))) rfl
theorem mn_X7_even : Cond.instanceMethod yX7_even ∈ wsL_law := wsL_of (List.mem_of_getElem? (i := 564) (by decide +kernel)) rfl
theorem mv_X7_even : Cond.selects RX7 yX7_even yX7_even ∈ wsL_law := wsL_of (List.mem_of_getElem? (i := 565) (by decide +kernel)) rfl
theorem mc_X6_weightTogether : Cond.code yX6_weightTogether cX6_weightTogether 4 (some .int) ∈ wsL_law := wsL_of (List.mem_append_right _ (List.mem_append_right _ (List.mem_append_left _ (List.mem_of_getElem? (i := 90) rfl)))) rfl
theorem mn_X6_weightTogether : Cond.instanceMethod yX6_weightTogether ∈ wsL_law := wsL_of (List.mem_of_getElem? (i := 568) (by decide +kernel)) rfl
theorem mv_X6_weightTogether : Cond.selects RX6 yX6_weightTogether yX6_weightTogether ∈ wsL_law := wsL_of (List.mem_of_getElem? (i := 569) (by decide +kernel)) rfl
theorem mc_X7_odds : Cond.code yX7_odds cX7_odds 6 (some .long) ∈ wsL_law := wsL_of (List.mem_append_right _ (List.mem_append_right _ (List.mem_append_left _ (List.mem_of_getElem? (i := 96) rfl)))) rfl
theorem mn_X7_odds : Cond.instanceMethod yX7_odds ∈ wsL_law := wsL_of (List.mem_of_getElem? (i := 574) (by decide +kernel)) rfl
theorem mv_X7_odds : Cond.selects RX7 yX7_odds yX7_odds ∈ wsL_law := wsL_of (List.mem_of_getElem? (i := 575) (by decide +kernel)) rfl
theorem mc_X4_countTold : Cond.code yX4_countTold cX4_countTold 3 (some .int) ∈ wsL_law := wsL_of (List.mem_append_right _ (List.mem_append_right _ (List.mem_append_left _ (List.mem_of_getElem? (i := 101) rfl)))) rfl
theorem mn_X4_countTold : Cond.instanceMethod yX4_countTold ∈ wsL_law := wsL_of (List.mem_of_getElem? (i := 579) (by decide +kernel)) rfl
theorem mv_X4_countTold : Cond.selects RX4 yX4_countTold yX4_countTold ∈ wsL_law := wsL_of (List.mem_of_getElem? (i := 580) (by decide +kernel)) rfl
theorem mc_X7_commonDivisor : Cond.code yX7_commonDivisor cX7_commonDivisor 3 (some .int) ∈ wsL_law := wsL_of (List.mem_append_right _ (List.mem_append_right _ (List.mem_append_left _ (List.mem_of_getElem? (i := 104) rfl)))) rfl
theorem ms_X7_commonDivisor : Cond.static yX7_commonDivisor ∈ wsL_law := wsL_of (List.mem_of_getElem? (i := 583) (by decide +kernel)) rfl
theorem mc_X7_sheet : Cond.code yX7_sheet cX7_sheet 4 (some .int) ∈ wsL_law := wsL_of (List.mem_append_right _ (List.mem_append_right _ (List.mem_append_left _ (List.mem_of_getElem? (i := 108) rfl)))) rfl
theorem mn_X7_sheet : Cond.instanceMethod yX7_sheet ∈ wsL_law := wsL_of (List.mem_of_getElem? (i := 586) (by decide +kernel)) rfl
theorem mv_X7_sheet : Cond.selects RX7 yX7_sheet yX7_sheet ∈ wsL_law := wsL_of (List.mem_of_getElem? (i := 587) (by decide +kernel)) rfl
theorem mc_X3_renew : Cond.code yX3_renew cX3_renew 5 none ∈ wsL_law := wsL_of (List.mem_append_right _ (List.mem_append_right _ (List.mem_append_left _ (List.mem_of_getElem? (i := 112) rfl)))) rfl
theorem mn_X3_renew : Cond.instanceMethod yX3_renew ∈ wsL_law := wsL_of (List.mem_of_getElem? (i := 590) (by decide +kernel)) rfl
theorem mv_X3_renew : Cond.selects RX3 yX3_renew yX3_renew ∈ wsL_law := wsL_of (List.mem_of_getElem? (i := 591) (by decide +kernel)) rfl
theorem mc_X7_lose : Cond.code yX7_lose cX7_lose 2 (some .int) ∈ wsL_law := wsL_of (List.mem_append_right _ (List.mem_append_right _ (List.mem_append_left _ (List.mem_of_getElem? (i := 116) rfl)))) rfl
theorem mn_X7_lose : Cond.instanceMethod yX7_lose ∈ wsL_law := wsL_of (List.mem_of_getElem? (i := 594) (by decide +kernel)) rfl
theorem mv_X7_lose : Cond.selects RX7 yX7_lose yX7_lose ∈ wsL_law := wsL_of (List.mem_of_getElem? (i := 595) (by decide +kernel)) rfl
theorem mc_X3_empty : Cond.code yX3_empty cX3_empty 3 (some .boolean) ∈ wsL_law := wsL_of (List.mem_append_right _ (List.mem_append_right _ (List.mem_append_left _ (List.mem_of_getElem? (i := 120) rfl)))) rfl
theorem mn_X3_empty : Cond.instanceMethod yX3_empty ∈ wsL_law := wsL_of (List.mem_of_getElem? (i := 598) (by decide +kernel)) rfl
theorem mv_X3_empty : Cond.selects RX3 yX3_empty yX3_empty ∈ wsL_law := wsL_of (List.mem_of_getElem? (i := 599) (by decide +kernel)) rfl
theorem mc_X7_put : Cond.code yX7_put cX7_put 4 (some .int) ∈ wsL_law := wsL_of (List.mem_append_right _ (List.mem_append_right _ (List.mem_append_left _ (List.mem_of_getElem? (i := 124) rfl)))) rfl
theorem mn_X7_put : Cond.instanceMethod yX7_put ∈ wsL_law := wsL_of (List.mem_of_getElem? (i := 602) (by decide +kernel)) rfl
theorem mv_X7_put : Cond.selects RX7 yX7_put yX7_put ∈ wsL_law := wsL_of (List.mem_of_getElem? (i := 603) (by decide +kernel)) rfl
theorem mc_X3_setCell : Cond.code yX3_setCell cX3_setCell 4 none ∈ wsL_law := wsL_of (List.mem_append_right _ (List.mem_append_right _ (List.mem_append_left _ (List.mem_of_getElem? (i := 130) rfl)))) rfl
theorem mn_X3_setCell : Cond.instanceMethod yX3_setCell ∈ wsL_law := wsL_of (List.mem_of_getElem? (i := 608) (by decide +kernel)) rfl
theorem mv_X3_setCell : Cond.selects RX3 yX3_setCell yX3_setCell ∈ wsL_law := wsL_of (List.mem_of_getElem? (i := 609) (by decide +kernel)) rfl
theorem mc_X3_cut : Cond.code yX3_cut cX3_cut 2 (some .int) ∈ wsL_law := wsL_of (List.mem_append_right _ (List.mem_append_right _ (List.mem_append_left _ (List.mem_of_getElem? (i := 133) rfl)))) rfl
theorem ms_X3_cut : Cond.static yX3_cut ∈ wsL_law := wsL_of (List.mem_of_getElem? (i := 612) (by decide +kernel)) rfl
theorem mc_X7_cell : Cond.code yX7_cell cX7_cell 4 (some .long) ∈ wsL_law := wsL_of (List.mem_append_right _ (List.mem_append_right _ (List.mem_append_left _ (List.mem_of_getElem? (i := 137) rfl)))) rfl
theorem mn_X7_cell : Cond.instanceMethod yX7_cell ∈ wsL_law := wsL_of (List.mem_of_getElem? (i := 615) (by decide +kernel)) rfl
theorem mv_X7_cell : Cond.selects RX7 yX7_cell yX7_cell ∈ wsL_law := wsL_of (List.mem_of_getElem? (i := 616) (by decide +kernel)) rfl
theorem mc_X7_copy : Cond.code yX7_copy cX7_copy 6 (some .int) ∈ wsL_law := wsL_of (List.mem_append_right _ (List.mem_append_right _ (List.mem_append_left _ (List.mem_of_getElem? (i := 141) rfl)))) rfl
theorem mn_X7_copy : Cond.instanceMethod yX7_copy ∈ wsL_law := wsL_of (List.mem_of_getElem? (i := 619) (by decide +kernel)) rfl
theorem mv_X7_copy : Cond.selects RX7 yX7_copy yX7_copy ∈ wsL_law := wsL_of (List.mem_of_getElem? (i := 620) (by decide +kernel)) rfl
theorem mc_X3_copyCells : Cond.code yX3_copyCells cX3_copyCells 6 none ∈ wsL_law := wsL_of (List.mem_append_right _ (List.mem_append_right _ (List.mem_append_left _ (List.mem_of_getElem? (i := 146) rfl)))) rfl
theorem mn_X3_copyCells : Cond.instanceMethod yX3_copyCells ∈ wsL_law := wsL_of (List.mem_of_getElem? (i := 624) (by decide +kernel)) rfl
theorem mv_X3_copyCells : Cond.selects RX3 yX3_copyCells yX3_copyCells ∈ wsL_law := wsL_of (List.mem_of_getElem? (i := 625) (by decide +kernel)) rfl
theorem mc_X7_tell : Cond.code yX7_tell cX7_tell 3 (some .int) ∈ wsL_law := wsL_of (List.mem_append_right _ (List.mem_append_right _ (List.mem_append_left _ (List.mem_of_getElem? (i := 153) rfl)))) rfl
theorem mn_X7_tell : Cond.instanceMethod yX7_tell ∈ wsL_law := wsL_of (List.mem_of_getElem? (i := 631) (by decide +kernel)) rfl
theorem mv_X7_tell : Cond.selects RX7 yX7_tell yX7_tell ∈ wsL_law := wsL_of (List.mem_of_getElem? (i := 632) (by decide +kernel)) rfl
theorem mc_X7_smithBody : Cond.code yX7_smithBody cX7_smithBody 3 (some .int) ∈ wsL_law := wsL_of (List.mem_append_right _ (List.mem_append_right _ (List.mem_append_left _ (List.mem_of_getElem? (i := 157) rfl)))) rfl
theorem mn_X7_smithBody : Cond.instanceMethod yX7_smithBody ∈ wsL_law := wsL_of (List.mem_of_getElem? (i := 636) (by decide +kernel)) rfl
theorem mv_X7_smithBody : Cond.selects RX7 yX7_smithBody yX7_smithBody ∈ wsL_law := wsL_sel (List.mem_of_getElem? (i := 18) (by decide +kernel))
theorem mc_X7_leaveTrace : Cond.code yX7_leaveTrace cX7_leaveTrace 2 none ∈ wsL_law := wsL_of (List.mem_append_right _ (List.mem_append_right _ (List.mem_append_left _ (List.mem_of_getElem? (i := 161) rfl)))) rfl
theorem mn_X7_leaveTrace : Cond.instanceMethod yX7_leaveTrace ∈ wsL_law := wsL_of (List.mem_of_getElem? (i := 640) (by decide +kernel)) rfl
theorem mv_X7_leaveTrace : Cond.selects RX7 yX7_leaveTrace yX7_leaveTrace ∈ wsL_law := wsL_sel (List.mem_of_getElem? (i := 19) (by decide +kernel))
theorem mc_X7_steadyBody : Cond.code yX7_steadyBody cX7_steadyBody 2 (some .int) ∈ wsL_law := wsL_of (List.mem_append_right _ (List.mem_append_right _ (List.mem_append_left _ (List.mem_of_getElem? (i := 165) rfl)))) rfl
theorem mn_X7_steadyBody : Cond.instanceMethod yX7_steadyBody ∈ wsL_law := wsL_of (List.mem_of_getElem? (i := 644) (by decide +kernel)) rfl
theorem mv_X7_steadyBody : Cond.selects RX7 yX7_steadyBody yX7_steadyBody ∈ wsL_law := wsL_sel (List.mem_of_getElem? (i := 20) (by decide +kernel))
theorem mc_X7_handBody : Cond.code yX7_handBody cX7_handBody 2 (some .int) ∈ wsL_law := wsL_of (List.mem_append_right _ (List.mem_append_right _ (List.mem_append_left _ (List.mem_of_getElem? (i := 169) rfl)))) rfl
theorem mn_X7_handBody : Cond.instanceMethod yX7_handBody ∈ wsL_law := wsL_of (List.mem_of_getElem? (i := 648) (by decide +kernel)) rfl
theorem mv_X7_handBody : Cond.selects RX7 yX7_handBody yX7_handBody ∈ wsL_law := wsL_sel (List.mem_of_getElem? (i := 21) (by decide +kernel))
theorem mc_X7_shake : Cond.code yX7_shake cX7_shake 2 (some .int) ∈ wsL_law := wsL_of (List.mem_append_right _ (List.mem_append_right _ (List.mem_append_left _ (List.mem_of_getElem? (i := 173) rfl)))) rfl
theorem mn_X7_shake : Cond.instanceMethod yX7_shake ∈ wsL_law := wsL_of (List.mem_of_getElem? (i := 651) (by decide +kernel)) rfl
theorem mv_X7_shake : Cond.selects RX7 yX7_shake yX7_shake ∈ wsL_law := wsL_of (List.mem_of_getElem? (i := 652) (by decide +kernel)) rfl
theorem mc_X7_smithsOwnBody : Cond.code yX7_smithsOwnBody cX7_smithsOwnBody 1 (some .int) ∈ wsL_law := wsL_of (List.mem_append_right _ (List.mem_append_right _ (List.mem_append_left _ (List.mem_of_getElem? (i := 177) rfl)))) rfl
theorem mn_X7_smithsOwnBody : Cond.instanceMethod yX7_smithsOwnBody ∈ wsL_law := wsL_of (List.mem_of_getElem? (i := 656) (by decide +kernel)) rfl
theorem mv_X7_smithsOwnBody : Cond.selects RX7 yX7_smithsOwnBody yX7_smithsOwnBody ∈ wsL_law := wsL_sel (List.mem_of_getElem? (i := 22) (by decide +kernel))
theorem mc_X7_lentBody : Cond.code yX7_lentBody cX7_lentBody 2 (some .int) ∈ wsL_law := wsL_of (List.mem_append_right _ (List.mem_append_right _ (List.mem_append_left _ (List.mem_of_getElem? (i := 181) rfl)))) rfl
theorem mn_X7_lentBody : Cond.instanceMethod yX7_lentBody ∈ wsL_law := wsL_of (List.mem_of_getElem? (i := 660) (by decide +kernel)) rfl
theorem mv_X7_lentBody : Cond.selects RX7 yX7_lentBody yX7_lentBody ∈ wsL_law := wsL_sel (List.mem_of_getElem? (i := 23) (by decide +kernel))
theorem mc_X7_as : Cond.code yX7_as cX7_as 3 (some .int) ∈ wsL_law := wsL_of (List.mem_append_right _ (List.mem_append_right _ (List.mem_append_left _ (List.mem_of_getElem? (i := 185) rfl)))) rfl
theorem mn_X7_as : Cond.instanceMethod yX7_as ∈ wsL_law := wsL_of (List.mem_of_getElem? (i := 663) (by decide +kernel)) rfl
theorem mv_X7_as : Cond.selects RX7 yX7_as yX7_as ∈ wsL_law := wsL_of (List.mem_of_getElem? (i := 664) (by decide +kernel)) rfl
theorem mc_X7_trace : Cond.code yX7_trace cX7_trace 1 (some .int) ∈ wsL_law := wsL_of (List.mem_append_right _ (List.mem_append_right _ (List.mem_append_left _ (List.mem_of_getElem? (i := 189) rfl)))) rfl
theorem mn_X7_trace : Cond.instanceMethod yX7_trace ∈ wsL_law := wsL_of (List.mem_of_getElem? (i := 667) (by decide +kernel)) rfl
theorem mv_X7_trace : Cond.selects RX7 yX7_trace yX7_trace ∈ wsL_law := wsL_of (List.mem_of_getElem? (i := 668) (by decide +kernel)) rfl
theorem mc_X7_fault : Cond.code yX7_fault cX7_fault 1 (some .int) ∈ wsL_law := wsL_of (List.mem_append_right _ (List.mem_append_right _ (List.mem_append_left _ (List.mem_of_getElem? (i := 193) rfl)))) rfl
theorem mn_X7_fault : Cond.instanceMethod yX7_fault ∈ wsL_law := wsL_of (List.mem_of_getElem? (i := 671) (by decide +kernel)) rfl
theorem mv_X7_fault : Cond.selects RX7 yX7_fault yX7_fault ∈ wsL_law := wsL_of (List.mem_of_getElem? (i := 672) (by decide +kernel)) rfl
theorem mc_X7_many : Cond.code yX7_many cX7_many 2 (some .int) ∈ wsL_law := wsL_of (List.mem_append_right _ (List.mem_append_right _ (List.mem_append_left _ (List.mem_of_getElem? (i := 197) rfl)))) rfl
theorem mn_X7_many : Cond.instanceMethod yX7_many ∈ wsL_law := wsL_of (List.mem_of_getElem? (i := 675) (by decide +kernel)) rfl
theorem mv_X7_many : Cond.selects RX7 yX7_many yX7_many ∈ wsL_law := wsL_of (List.mem_of_getElem? (i := 676) (by decide +kernel)) rfl
theorem mc_X1_count : Cond.code yX1_count cX1_count 1 (some .int) ∈ wsL_law := wsL_of (List.mem_append_right _ (List.mem_append_right _ (List.mem_append_left _ (List.mem_of_getElem? (i := 201) rfl)))) rfl
theorem mn_X1_count : Cond.instanceMethod yX1_count ∈ wsL_law := wsL_of (List.mem_of_getElem? (i := 679) (by decide +kernel)) rfl
theorem mv_X1_count : Cond.selects RX1 yX1_count yX1_count ∈ wsL_law := wsL_of (List.mem_of_getElem? (i := 680) (by decide +kernel)) rfl
theorem mc_X8_init : Cond.code yX8_init cX8_init 1 none ∈ wsL_law := wsL_of (List.mem_append_right _ (List.mem_append_right _ (List.mem_append_left _ (List.mem_of_getElem? (i := 206) rfl)))) rfl
theorem mn_X8_init : Cond.instanceMethod yX8_init ∈ wsL_law := wsL_of (List.mem_of_getElem? (i := 685) (by decide +kernel)) rfl
theorem mc_X8_market : Cond.code yX8_market cX8_market 8 (some .int) ∈ wsL_law := wsL_of (List.mem_append_right _ (List.mem_append_right _ (List.mem_append_right _ (List.mem_append_left _ (List.mem_of_getElem? (i := 41) rfl))))) rfl
theorem mn_X8_market : Cond.instanceMethod yX8_market ∈ wsL_law := wsL_of (List.mem_of_getElem? (i := 759) (by decide +kernel)) rfl
theorem mv_X8_market : Cond.selects RX8 yX8_market yX8_market ∈ wsL_law := wsL_of (List.mem_of_getElem? (i := 760) (by decide +kernel)) rfl
theorem mc_X8_isSheet : Cond.code yX8_isSheet cX8_isSheet 1 (some .boolean) ∈ wsL_law := wsL_of (List.mem_append_right _ (List.mem_append_right _ (List.mem_append_right _ (List.mem_append_left _ (List.mem_of_getElem? (i := 44) rfl))))) rfl
theorem ms_X8_isSheet : Cond.static yX8_isSheet ∈ wsL_law := wsL_of (List.mem_of_getElem? (i := 763) (by decide +kernel)) rfl
theorem mc_X8_within : Cond.code yX8_within cX8_within 3 (some .boolean) ∈ wsL_law := wsL_of (List.mem_append_right _ (List.mem_append_right _ (List.mem_append_right _ (List.mem_append_left _ (List.mem_of_getElem? (i := 47) rfl))))) rfl
theorem ms_X8_within : Cond.static yX8_within ∈ wsL_law := wsL_of (List.mem_of_getElem? (i := 766) (by decide +kernel)) rfl
theorem mc_X8_isSort : Cond.code yX8_isSort cX8_isSort 1 (some .boolean) ∈ wsL_law := wsL_of (List.mem_append_right _ (List.mem_append_right _ (List.mem_append_right _ (List.mem_append_left _ (List.mem_of_getElem? (i := 50) rfl))))) rfl
theorem ms_X8_isSort : Cond.static yX8_isSort ∈ wsL_law := wsL_of (List.mem_of_getElem? (i := 769) (by decide +kernel)) rfl
theorem mc_X8_against : Cond.code yX8_against cX8_against 5 (some .int) ∈ wsL_law := wsL_of (List.mem_append_right _ (List.mem_append_right _ (List.mem_append_right _ (List.mem_append_left _ (List.mem_of_getElem? (i := 54) rfl))))) rfl
theorem mn_X8_against : Cond.instanceMethod yX8_against ∈ wsL_law := wsL_of (List.mem_of_getElem? (i := 773) (by decide +kernel)) rfl
theorem mv_X8_against : Cond.selects RX8 yX8_against yX8_against ∈ wsL_law := wsL_sel (List.mem_of_getElem? (i := 24) (by decide +kernel))
theorem mc_X8_fails : Cond.code yX8_fails cX8_fails 2 (some .int) ∈ wsL_law := wsL_of (List.mem_append_right _ (List.mem_append_right _ (List.mem_append_right _ (List.mem_append_left _ (List.mem_of_getElem? (i := 58) rfl))))) rfl
theorem mn_X8_fails : Cond.instanceMethod yX8_fails ∈ wsL_law := wsL_of (List.mem_of_getElem? (i := 777) (by decide +kernel)) rfl
theorem mv_X8_fails : Cond.selects RX8 yX8_fails yX8_fails ∈ wsL_law := wsL_sel (List.mem_of_getElem? (i := 25) (by decide +kernel))
theorem mc_X8_readMarket : Cond.code yX8_readMarket cX8_readMarket 4 (some .boolean) ∈ wsL_law := wsL_of (List.mem_append_right _ (List.mem_append_right _ (List.mem_append_right _ (List.mem_append_left _ (List.mem_of_getElem? (i := 62) rfl))))) rfl
theorem mn_X8_readMarket : Cond.instanceMethod yX8_readMarket ∈ wsL_law := wsL_of (List.mem_of_getElem? (i := 781) (by decide +kernel)) rfl
theorem mv_X8_readMarket : Cond.selects RX8 yX8_readMarket yX8_readMarket ∈ wsL_law := wsL_sel (List.mem_of_getElem? (i := 26) (by decide +kernel))
theorem mc_X8_weight : Cond.code yX8_weight cX8_weight 2 (some .int) ∈ wsL_law := wsL_of (List.mem_append_right _ (List.mem_append_right _ (List.mem_append_right _ (List.mem_append_left _ (List.mem_of_getElem? (i := 66) rfl))))) rfl
theorem mn_X8_weight : Cond.instanceMethod yX8_weight ∈ wsL_law := wsL_of (List.mem_of_getElem? (i := 784) (by decide +kernel)) rfl
theorem mv_X8_weight : Cond.selects RX8 yX8_weight yX8_weight ∈ wsL_law := wsL_of (List.mem_of_getElem? (i := 785) (by decide +kernel)) rfl
theorem mc_X8_isThing : Cond.code yX8_isThing cX8_isThing 2 (some .boolean) ∈ wsL_law := wsL_of (List.mem_append_right _ (List.mem_append_right _ (List.mem_append_right _ (List.mem_append_left _ (List.mem_of_getElem? (i := 70) rfl))))) rfl
theorem mn_X8_isThing : Cond.instanceMethod yX8_isThing ∈ wsL_law := wsL_of (List.mem_of_getElem? (i := 789) (by decide +kernel)) rfl
theorem mv_X8_isThing : Cond.selects RX8 yX8_isThing yX8_isThing ∈ wsL_law := wsL_sel (List.mem_of_getElem? (i := 27) (by decide +kernel))
theorem mc_X8_weigh : Cond.code yX8_weigh cX8_weigh 4 (some .int) ∈ wsL_law := wsL_of (List.mem_append_right _ (List.mem_append_right _ (List.mem_append_right _ (List.mem_append_left _ (List.mem_of_getElem? (i := 74) rfl))))) rfl
theorem mn_X8_weigh : Cond.instanceMethod yX8_weigh ∈ wsL_law := wsL_of (List.mem_of_getElem? (i := 792) (by decide +kernel)) rfl
theorem mv_X8_weigh : Cond.selects RX8 yX8_weigh yX8_weigh ∈ wsL_law := wsL_of (List.mem_of_getElem? (i := 793) (by decide +kernel)) rfl
theorem mc_X8_isWeight : Cond.code yX8_isWeight cX8_isWeight 1 (some .boolean) ∈ wsL_law := wsL_of (List.mem_append_right _ (List.mem_append_right _ (List.mem_append_right _ (List.mem_append_left _ (List.mem_of_getElem? (i := 77) rfl))))) rfl
theorem ms_X8_isWeight : Cond.static yX8_isWeight ∈ wsL_law := wsL_of (List.mem_of_getElem? (i := 796) (by decide +kernel)) rfl
theorem mc_X8_hand : Cond.code yX8_hand cX8_hand 3 (some .int) ∈ wsL_law := wsL_of (List.mem_append_right _ (List.mem_append_right _ (List.mem_append_right _ (List.mem_append_left _ (List.mem_of_getElem? (i := 81) rfl))))) rfl
theorem mn_X8_hand : Cond.instanceMethod yX8_hand ∈ wsL_law := wsL_of (List.mem_of_getElem? (i := 799) (by decide +kernel)) rfl
theorem mv_X8_hand : Cond.selects RX8 yX8_hand yX8_hand ∈ wsL_law := wsL_of (List.mem_of_getElem? (i := 800) (by decide +kernel)) rfl
theorem mc_X8_ofHand : Cond.code yX8_ofHand cX8_ofHand 3 (some .int) ∈ wsL_law := wsL_of (List.mem_append_right _ (List.mem_append_right _ (List.mem_append_right _ (List.mem_append_left _ (List.mem_of_getElem? (i := 85) rfl))))) rfl
theorem mn_X8_ofHand : Cond.instanceMethod yX8_ofHand ∈ wsL_law := wsL_of (List.mem_of_getElem? (i := 803) (by decide +kernel)) rfl
theorem mv_X8_ofHand : Cond.selects RX8 yX8_ofHand yX8_ofHand ∈ wsL_law := wsL_of (List.mem_of_getElem? (i := 804) (by decide +kernel)) rfl
theorem mc_X8_isHand : Cond.code yX8_isHand cX8_isHand 2 (some .boolean) ∈ wsL_law := wsL_of (List.mem_append_right _ (List.mem_append_right _ (List.mem_append_right _ (List.mem_append_left _ (List.mem_of_getElem? (i := 89) rfl))))) rfl
theorem mn_X8_isHand : Cond.instanceMethod yX8_isHand ∈ wsL_law := wsL_of (List.mem_of_getElem? (i := 808) (by decide +kernel)) rfl
theorem mv_X8_isHand : Cond.selects RX8 yX8_isHand yX8_isHand ∈ wsL_law := wsL_sel (List.mem_of_getElem? (i := 28) (by decide +kernel))
theorem mc_X8_tells : Cond.code yX8_tells cX8_tells 4 (some .int) ∈ wsL_law := wsL_of (List.mem_append_right _ (List.mem_append_right _ (List.mem_append_right _ (List.mem_append_left _ (List.mem_of_getElem? (i := 93) rfl))))) rfl
theorem mn_X8_tells : Cond.instanceMethod yX8_tells ∈ wsL_law := wsL_of (List.mem_of_getElem? (i := 811) (by decide +kernel)) rfl
theorem mv_X8_tells : Cond.selects RX8 yX8_tells yX8_tells ∈ wsL_law := wsL_of (List.mem_of_getElem? (i := 812) (by decide +kernel)) rfl
theorem mc_X8_isTold : Cond.code yX8_isTold cX8_isTold 5 (some .boolean) ∈ wsL_law := wsL_of (List.mem_append_right _ (List.mem_append_right _ (List.mem_append_right _ (List.mem_append_left _ (List.mem_of_getElem? (i := 97) rfl))))) rfl
theorem mn_X8_isTold : Cond.instanceMethod yX8_isTold ∈ wsL_law := wsL_of (List.mem_of_getElem? (i := 816) (by decide +kernel)) rfl
theorem mv_X8_isTold : Cond.selects RX8 yX8_isTold yX8_isTold ∈ wsL_law := wsL_sel (List.mem_of_getElem? (i := 29) (by decide +kernel))
theorem mc_X8_times : Cond.code yX8_times cX8_times 2 (some .int) ∈ wsL_law := wsL_of (List.mem_append_right _ (List.mem_append_right _ (List.mem_append_right _ (List.mem_append_left _ (List.mem_of_getElem? (i := 101) rfl))))) rfl
theorem mn_X8_times : Cond.instanceMethod yX8_times ∈ wsL_law := wsL_of (List.mem_of_getElem? (i := 820) (by decide +kernel)) rfl
theorem mv_X8_times : Cond.selects RX8 yX8_times yX8_times ∈ wsL_law := wsL_sel (List.mem_of_getElem? (i := 30) (by decide +kernel))
theorem mc_X8_alike : Cond.code yX8_alike cX8_alike 3 (some .int) ∈ wsL_law := wsL_of (List.mem_append_right _ (List.mem_append_right _ (List.mem_append_right _ (List.mem_append_left _ (List.mem_of_getElem? (i := 105) rfl))))) rfl
theorem mn_X8_alike : Cond.instanceMethod yX8_alike ∈ wsL_law := wsL_of (List.mem_of_getElem? (i := 823) (by decide +kernel)) rfl
theorem mv_X8_alike : Cond.selects RX8 yX8_alike yX8_alike ∈ wsL_law := wsL_of (List.mem_of_getElem? (i := 824) (by decide +kernel)) rfl
theorem mc_X8_alikeTo : Cond.code yX8_alikeTo cX8_alikeTo 5 (some .int) ∈ wsL_law := wsL_of (List.mem_append_right _ (List.mem_append_right _ (List.mem_append_right _ (List.mem_append_left _ (List.mem_of_getElem? (i := 109) rfl))))) rfl
theorem mn_X8_alikeTo : Cond.instanceMethod yX8_alikeTo ∈ wsL_law := wsL_of (List.mem_of_getElem? (i := 828) (by decide +kernel)) rfl
theorem mv_X8_alikeTo : Cond.selects RX8 yX8_alikeTo yX8_alikeTo ∈ wsL_law := wsL_sel (List.mem_of_getElem? (i := 31) (by decide +kernel))
theorem mc_X8_areAlike : Cond.code yX8_areAlike cX8_areAlike 4 (some .boolean) ∈ wsL_law := wsL_of (List.mem_append_right _ (List.mem_append_right _ (List.mem_append_right _ (List.mem_append_left _ (List.mem_of_getElem? (i := 113) rfl))))) rfl
theorem mn_X8_areAlike : Cond.instanceMethod yX8_areAlike ∈ wsL_law := wsL_of (List.mem_of_getElem? (i := 832) (by decide +kernel)) rfl
theorem mv_X8_areAlike : Cond.selects RX8 yX8_areAlike yX8_areAlike ∈ wsL_law := wsL_sel (List.mem_of_getElem? (i := 32) (by decide +kernel))
theorem mc_X8_tellsThem : Cond.code yX8_tellsThem cX8_tellsThem 4 (some .boolean) ∈ wsL_law := wsL_of (List.mem_append_right _ (List.mem_append_right _ (List.mem_append_right _ (List.mem_append_left _ (List.mem_of_getElem? (i := 117) rfl))))) rfl
theorem mn_X8_tellsThem : Cond.instanceMethod yX8_tellsThem ∈ wsL_law := wsL_of (List.mem_of_getElem? (i := 836) (by decide +kernel)) rfl
theorem mv_X8_tellsThem : Cond.selects RX8 yX8_tellsThem yX8_tellsThem ∈ wsL_law := wsL_sel (List.mem_of_getElem? (i := 33) (by decide +kernel))
theorem mc_X8_finer : Cond.code yX8_finer cX8_finer 7 (some .int) ∈ wsL_law := wsL_of (List.mem_append_right _ (List.mem_append_right _ (List.mem_append_right _ (List.mem_append_left _ (List.mem_of_getElem? (i := 121) rfl))))) rfl
theorem mn_X8_finer : Cond.instanceMethod yX8_finer ∈ wsL_law := wsL_of (List.mem_of_getElem? (i := 839) (by decide +kernel)) rfl
theorem mv_X8_finer : Cond.selects RX8 yX8_finer yX8_finer ∈ wsL_law := wsL_of (List.mem_of_getElem? (i := 840) (by decide +kernel)) rfl
theorem mc_X8_way : Cond.code yX8_way cX8_way 7 (some .int) ∈ wsL_law := wsL_of (List.mem_append_right _ (List.mem_append_right _ (List.mem_append_right _ (List.mem_append_left _ (List.mem_of_getElem? (i := 125) rfl))))) rfl
theorem mn_X8_way : Cond.instanceMethod yX8_way ∈ wsL_law := wsL_of (List.mem_of_getElem? (i := 843) (by decide +kernel)) rfl
theorem mv_X8_way : Cond.selects RX8 yX8_way yX8_way ∈ wsL_law := wsL_of (List.mem_of_getElem? (i := 844) (by decide +kernel)) rfl
theorem mc_X8_findFar : Cond.code yX8_findFar cX8_findFar 6 none ∈ wsL_law := wsL_of (List.mem_append_right _ (List.mem_append_right _ (List.mem_append_right _ (List.mem_append_left _ (List.mem_of_getElem? (i := 129) rfl))))) rfl
theorem mn_X8_findFar : Cond.instanceMethod yX8_findFar ∈ wsL_law := wsL_of (List.mem_of_getElem? (i := 848) (by decide +kernel)) rfl
theorem mv_X8_findFar : Cond.selects RX8 yX8_findFar yX8_findFar ∈ wsL_law := wsL_sel (List.mem_of_getElem? (i := 34) (by decide +kernel))
theorem mc_X8_nextOf : Cond.code yX8_nextOf cX8_nextOf 4 (some .int) ∈ wsL_law := wsL_of (List.mem_append_right _ (List.mem_append_right _ (List.mem_append_right _ (List.mem_append_left _ (List.mem_of_getElem? (i := 133) rfl))))) rfl
theorem mn_X8_nextOf : Cond.instanceMethod yX8_nextOf ∈ wsL_law := wsL_of (List.mem_of_getElem? (i := 852) (by decide +kernel)) rfl
theorem mv_X8_nextOf : Cond.selects RX8 yX8_nextOf yX8_nextOf ∈ wsL_law := wsL_sel (List.mem_of_getElem? (i := 35) (by decide +kernel))
theorem mc_X8_noon : Cond.code yX8_noon cX8_noon 6 (some .int) ∈ wsL_law := wsL_of (List.mem_append_right _ (List.mem_append_right _ (List.mem_append_right _ (List.mem_append_left _ (List.mem_of_getElem? (i := 137) rfl))))) rfl
theorem mn_X8_noon : Cond.instanceMethod yX8_noon ∈ wsL_law := wsL_of (List.mem_of_getElem? (i := 855) (by decide +kernel)) rfl
theorem mv_X8_noon : Cond.selects RX8 yX8_noon yX8_noon ∈ wsL_law := wsL_of (List.mem_of_getElem? (i := 856) (by decide +kernel)) rfl
theorem mc_X8_gain : Cond.code yX8_gain cX8_gain 12 (some .int) ∈ wsL_law := wsL_of (List.mem_append_right _ (List.mem_append_right _ (List.mem_append_right _ (List.mem_append_left _ (List.mem_of_getElem? (i := 141) rfl))))) rfl
theorem mn_X8_gain : Cond.instanceMethod yX8_gain ∈ wsL_law := wsL_of (List.mem_of_getElem? (i := 859) (by decide +kernel)) rfl
theorem mv_X8_gain : Cond.selects RX8 yX8_gain yX8_gain ∈ wsL_law := wsL_of (List.mem_of_getElem? (i := 860) (by decide +kernel)) rfl
theorem mc_X8_isGot : Cond.code yX8_isGot cX8_isGot 6 (some .boolean) ∈ wsL_law := wsL_of (List.mem_append_right _ (List.mem_append_right _ (List.mem_append_right _ (List.mem_append_left _ (List.mem_of_getElem? (i := 145) rfl))))) rfl
theorem mn_X8_isGot : Cond.instanceMethod yX8_isGot ∈ wsL_law := wsL_of (List.mem_of_getElem? (i := 864) (by decide +kernel)) rfl
theorem mv_X8_isGot : Cond.selects RX8 yX8_isGot yX8_isGot ∈ wsL_law := wsL_sel (List.mem_of_getElem? (i := 36) (by decide +kernel))
theorem mc_X8_saying : Cond.code yX8_saying cX8_saying 5 (some .int) ∈ wsL_law := wsL_of (List.mem_append_right _ (List.mem_append_right _ (List.mem_append_right _ (List.mem_append_left _ (List.mem_of_getElem? (i := 149) rfl))))) rfl
theorem mn_X8_saying : Cond.instanceMethod yX8_saying ∈ wsL_law := wsL_of (List.mem_of_getElem? (i := 867) (by decide +kernel)) rfl
theorem mv_X8_saying : Cond.selects RX8 yX8_saying yX8_saying ∈ wsL_law := wsL_of (List.mem_of_getElem? (i := 868) (by decide +kernel)) rfl
theorem mc_X8_back : Cond.code yX8_back cX8_back 2 (some .int) ∈ wsL_law := wsL_of (List.mem_append_right _ (List.mem_append_right _ (List.mem_append_right _ (List.mem_append_left _ (List.mem_of_getElem? (i := 153) rfl))))) rfl
theorem mn_X8_back : Cond.instanceMethod yX8_back ∈ wsL_law := wsL_of (List.mem_of_getElem? (i := 871) (by decide +kernel)) rfl
theorem mv_X8_back : Cond.selects RX8 yX8_back yX8_back ∈ wsL_law := wsL_of (List.mem_of_getElem? (i := 872) (by decide +kernel)) rfl
theorem mc_X8_untrue : Cond.code yX8_untrue cX8_untrue 3 (some .int) ∈ wsL_law := wsL_of (List.mem_append_right _ (List.mem_append_right _ (List.mem_append_right _ (List.mem_append_left _ (List.mem_of_getElem? (i := 157) rfl))))) rfl
theorem mn_X8_untrue : Cond.instanceMethod yX8_untrue ∈ wsL_law := wsL_of (List.mem_of_getElem? (i := 875) (by decide +kernel)) rfl
theorem mv_X8_untrue : Cond.selects RX8 yX8_untrue yX8_untrue ∈ wsL_law := wsL_of (List.mem_of_getElem? (i := 876) (by decide +kernel)) rfl
theorem mc_X8_isSo : Cond.code yX8_isSo cX8_isSo 4 (some .boolean) ∈ wsL_law := wsL_of (List.mem_append_right _ (List.mem_append_right _ (List.mem_append_right _ (List.mem_append_left _ (List.mem_of_getElem? (i := 161) rfl))))) rfl
theorem mn_X8_isSo : Cond.instanceMethod yX8_isSo ∈ wsL_law := wsL_of (List.mem_of_getElem? (i := 880) (by decide +kernel)) rfl
theorem mv_X8_isSo : Cond.selects RX8 yX8_isSo yX8_isSo ∈ wsL_law := wsL_sel (List.mem_of_getElem? (i := 37) (by decide +kernel))
theorem mc_X8_leaves : Cond.code yX8_leaves cX8_leaves 8 (some .int) ∈ wsL_law := wsL_of (List.mem_append_right _ (List.mem_append_right _ (List.mem_append_right _ (List.mem_append_left _ (List.mem_of_getElem? (i := 165) rfl))))) rfl
theorem mn_X8_leaves : Cond.instanceMethod yX8_leaves ∈ wsL_law := wsL_of (List.mem_of_getElem? (i := 883) (by decide +kernel)) rfl
theorem mv_X8_leaves : Cond.selects RX8 yX8_leaves yX8_leaves ∈ wsL_law := wsL_of (List.mem_of_getElem? (i := 884) (by decide +kernel)) rfl
theorem mc_X8_falseOf : Cond.code yX8_falseOf cX8_falseOf 4 (some .int) ∈ wsL_law := wsL_of (List.mem_append_right _ (List.mem_append_right _ (List.mem_append_right _ (List.mem_append_left _ (List.mem_of_getElem? (i := 169) rfl))))) rfl
theorem mn_X8_falseOf : Cond.instanceMethod yX8_falseOf ∈ wsL_law := wsL_of (List.mem_of_getElem? (i := 888) (by decide +kernel)) rfl
theorem mv_X8_falseOf : Cond.selects RX8 yX8_falseOf yX8_falseOf ∈ wsL_law := wsL_sel (List.mem_of_getElem? (i := 38) (by decide +kernel))
theorem mc_X8_breaks : Cond.code yX8_breaks cX8_breaks 8 (some .int) ∈ wsL_law := wsL_of (List.mem_append_right _ (List.mem_append_right _ (List.mem_append_right _ (List.mem_append_left _ (List.mem_of_getElem? (i := 173) rfl))))) rfl
theorem mn_X8_breaks : Cond.instanceMethod yX8_breaks ∈ wsL_law := wsL_of (List.mem_of_getElem? (i := 891) (by decide +kernel)) rfl
theorem mv_X8_breaks : Cond.selects RX8 yX8_breaks yX8_breaks ∈ wsL_law := wsL_of (List.mem_of_getElem? (i := 892) (by decide +kernel)) rfl
theorem mc_X8_rows : Cond.code yX8_rows cX8_rows 6 (some .int) ∈ wsL_law := wsL_of (List.mem_append_right _ (List.mem_append_right _ (List.mem_append_right _ (List.mem_append_left _ (List.mem_of_getElem? (i := 177) rfl))))) rfl
theorem mn_X8_rows : Cond.instanceMethod yX8_rows ∈ wsL_law := wsL_of (List.mem_of_getElem? (i := 895) (by decide +kernel)) rfl
theorem mv_X8_rows : Cond.selects RX8 yX8_rows yX8_rows ∈ wsL_law := wsL_of (List.mem_of_getElem? (i := 896) (by decide +kernel)) rfl
theorem mc_X8_inFirstRow : Cond.code yX8_inFirstRow cX8_inFirstRow 6 (some .int) ∈ wsL_law := wsL_of (List.mem_append_right _ (List.mem_append_right _ (List.mem_append_right _ (List.mem_append_left _ (List.mem_of_getElem? (i := 181) rfl))))) rfl
theorem mn_X8_inFirstRow : Cond.instanceMethod yX8_inFirstRow ∈ wsL_law := wsL_of (List.mem_of_getElem? (i := 900) (by decide +kernel)) rfl
theorem mv_X8_inFirstRow : Cond.selects RX8 yX8_inFirstRow yX8_inFirstRow ∈ wsL_law := wsL_sel (List.mem_of_getElem? (i := 39) (by decide +kernel))
theorem mc_X8_mayStand : Cond.code yX8_mayStand cX8_mayStand 5 (some .boolean) ∈ wsL_law := wsL_of (List.mem_append_right _ (List.mem_append_right _ (List.mem_append_right _ (List.mem_append_left _ (List.mem_of_getElem? (i := 185) rfl))))) rfl
theorem mn_X8_mayStand : Cond.instanceMethod yX8_mayStand ∈ wsL_law := wsL_of (List.mem_of_getElem? (i := 904) (by decide +kernel)) rfl
theorem mv_X8_mayStand : Cond.selects RX8 yX8_mayStand yX8_mayStand ∈ wsL_law := wsL_sel (List.mem_of_getElem? (i := 40) (by decide +kernel))
theorem mc_X8_longest : Cond.code yX8_longest cX8_longest 6 (some .int) ∈ wsL_law := wsL_of (List.mem_append_right _ (List.mem_append_right _ (List.mem_append_right _ (List.mem_append_left _ (List.mem_of_getElem? (i := 189) rfl))))) rfl
theorem mn_X8_longest : Cond.instanceMethod yX8_longest ∈ wsL_law := wsL_of (List.mem_of_getElem? (i := 907) (by decide +kernel)) rfl
theorem mv_X8_longest : Cond.selects RX8 yX8_longest yX8_longest ∈ wsL_law := wsL_of (List.mem_of_getElem? (i := 908) (by decide +kernel)) rfl
theorem mc_X8_crowd : Cond.code yX8_crowd cX8_crowd 4 (some .int) ∈ wsL_law := wsL_of (List.mem_append_right _ (List.mem_append_right _ (List.mem_append_right _ (List.mem_append_left _ (List.mem_of_getElem? (i := 193) rfl))))) rfl
theorem mn_X8_crowd : Cond.instanceMethod yX8_crowd ∈ wsL_law := wsL_of (List.mem_of_getElem? (i := 911) (by decide +kernel)) rfl
theorem mv_X8_crowd : Cond.selects RX8 yX8_crowd yX8_crowd ∈ wsL_law := wsL_of (List.mem_of_getElem? (i := 912) (by decide +kernel)) rfl
theorem mc_X8_bits : Cond.code yX8_bits cX8_bits 3 (some .int) ∈ wsL_law := wsL_of (List.mem_append_right _ (List.mem_append_right _ (List.mem_append_right _ (List.mem_append_left _ (List.mem_of_getElem? (i := 196) rfl))))) rfl
theorem ms_X8_bits : Cond.static yX8_bits ∈ wsL_law := wsL_of (List.mem_of_getElem? (i := 915) (by decide +kernel)) rfl
theorem mc_X8_isCrowd : Cond.code yX8_isCrowd cX8_isCrowd 4 (some .boolean) ∈ wsL_law := wsL_of (List.mem_append_right _ (List.mem_append_right _ (List.mem_append_right _ (List.mem_append_left _ (List.mem_of_getElem? (i := 200) rfl))))) rfl
theorem mn_X8_isCrowd : Cond.instanceMethod yX8_isCrowd ∈ wsL_law := wsL_of (List.mem_of_getElem? (i := 919) (by decide +kernel)) rfl
theorem mv_X8_isCrowd : Cond.selects RX8 yX8_isCrowd yX8_isCrowd ∈ wsL_law := wsL_sel (List.mem_of_getElem? (i := 41) (by decide +kernel))
theorem mc_X8_measure : Cond.code yX8_measure cX8_measure 7 (some .int) ∈ wsL_law := wsL_of (List.mem_append_right _ (List.mem_append_right _ (List.mem_append_right _ (List.mem_append_left _ (List.mem_of_getElem? (i := 204) rfl))))) rfl
theorem mn_X8_measure : Cond.instanceMethod yX8_measure ∈ wsL_law := wsL_of (List.mem_of_getElem? (i := 922) (by decide +kernel)) rfl
theorem mv_X8_measure : Cond.selects RX8 yX8_measure yX8_measure ∈ wsL_law := wsL_of (List.mem_of_getElem? (i := 923) (by decide +kernel)) rfl
theorem mc_X8_copies : Cond.code yX8_copies cX8_copies 9 (some .int) ∈ wsL_law := wsL_of (List.mem_append_right _ (List.mem_append_right _ (List.mem_append_right _ (List.mem_append_left _ (List.mem_of_getElem? (i := 208) rfl))))) rfl
theorem mn_X8_copies : Cond.instanceMethod yX8_copies ∈ wsL_law := wsL_of (List.mem_of_getElem? (i := 926) (by decide +kernel)) rfl
theorem mv_X8_copies : Cond.selects RX8 yX8_copies yX8_copies ∈ wsL_law := wsL_of (List.mem_of_getElem? (i := 927) (by decide +kernel)) rfl
theorem mc_X8_layRow : Cond.code yX8_layRow cX8_layRow 6 (some .int) ∈ wsL_law := wsL_of (List.mem_append_right _ (List.mem_append_right _ (List.mem_append_right _ (List.mem_append_left _ (List.mem_of_getElem? (i := 212) rfl))))) rfl
theorem mn_X8_layRow : Cond.instanceMethod yX8_layRow ∈ wsL_law := wsL_of (List.mem_of_getElem? (i := 931) (by decide +kernel)) rfl
theorem mv_X8_layRow : Cond.selects RX8 yX8_layRow yX8_layRow ∈ wsL_law := wsL_sel (List.mem_of_getElem? (i := 42) (by decide +kernel))
theorem mc_X8_copied : Cond.code yX8_copied cX8_copied 7 (some .int) ∈ wsL_law := wsL_of (List.mem_append_right _ (List.mem_append_right _ (List.mem_append_right _ (List.mem_append_left _ (List.mem_of_getElem? (i := 216) rfl))))) rfl
theorem mn_X8_copied : Cond.instanceMethod yX8_copied ∈ wsL_law := wsL_of (List.mem_of_getElem? (i := 935) (by decide +kernel)) rfl
theorem mv_X8_copied : Cond.selects RX8 yX8_copied yX8_copied ∈ wsL_law := wsL_sel (List.mem_of_getElem? (i := 43) (by decide +kernel))
theorem mc_X8_greatest : Cond.code yX8_greatest cX8_greatest 3 (some .int) ∈ wsL_law := wsL_of (List.mem_append_right _ (List.mem_append_right _ (List.mem_append_right _ (List.mem_append_left _ (List.mem_of_getElem? (i := 220) rfl))))) rfl
theorem mn_X8_greatest : Cond.instanceMethod yX8_greatest ∈ wsL_law := wsL_of (List.mem_of_getElem? (i := 939) (by decide +kernel)) rfl
theorem mv_X8_greatest : Cond.selects RX8 yX8_greatest yX8_greatest ∈ wsL_law := wsL_sel (List.mem_of_getElem? (i := 44) (by decide +kernel))
theorem mc_X8_least : Cond.code yX8_least cX8_least 6 (some .int) ∈ wsL_law := wsL_of (List.mem_append_right _ (List.mem_append_right _ (List.mem_append_right _ (List.mem_append_left _ (List.mem_of_getElem? (i := 224) rfl))))) rfl
theorem mn_X8_least : Cond.instanceMethod yX8_least ∈ wsL_law := wsL_of (List.mem_of_getElem? (i := 943) (by decide +kernel)) rfl
theorem mv_X8_least : Cond.selects RX8 yX8_least yX8_least ∈ wsL_law := wsL_sel (List.mem_of_getElem? (i := 45) (by decide +kernel))
theorem mc_X8_bestRow : Cond.code yX8_bestRow cX8_bestRow 10 (some .int) ∈ wsL_law := wsL_of (List.mem_append_right _ (List.mem_append_right _ (List.mem_append_right _ (List.mem_append_left _ (List.mem_of_getElem? (i := 228) rfl))))) rfl
theorem mn_X8_bestRow : Cond.instanceMethod yX8_bestRow ∈ wsL_law := wsL_of (List.mem_of_getElem? (i := 946) (by decide +kernel)) rfl
theorem mv_X8_bestRow : Cond.selects RX8 yX8_bestRow yX8_bestRow ∈ wsL_law := wsL_of (List.mem_of_getElem? (i := 947) (by decide +kernel)) rfl
theorem mc_X8_findBestRow : Cond.code yX8_findBestRow cX8_findBestRow 7 (some .int) ∈ wsL_law := wsL_of (List.mem_append_right _ (List.mem_append_right _ (List.mem_append_right _ (List.mem_append_left _ (List.mem_of_getElem? (i := 232) rfl))))) rfl
theorem mn_X8_findBestRow : Cond.instanceMethod yX8_findBestRow ∈ wsL_law := wsL_of (List.mem_of_getElem? (i := 951) (by decide +kernel)) rfl
theorem mv_X8_findBestRow : Cond.selects RX8 yX8_findBestRow yX8_findBestRow ∈ wsL_law := wsL_sel (List.mem_of_getElem? (i := 46) (by decide +kernel))
theorem mc_X8_exchange : Cond.code yX8_exchange cX8_exchange 4 none ∈ wsL_law := wsL_of (List.mem_append_right _ (List.mem_append_right _ (List.mem_append_right _ (List.mem_append_left _ (List.mem_of_getElem? (i := 236) rfl))))) rfl
theorem mn_X8_exchange : Cond.instanceMethod yX8_exchange ∈ wsL_law := wsL_of (List.mem_of_getElem? (i := 955) (by decide +kernel)) rfl
theorem mv_X8_exchange : Cond.selects RX8 yX8_exchange yX8_exchange ∈ wsL_law := wsL_sel (List.mem_of_getElem? (i := 47) (by decide +kernel))
theorem mc_X8_nextRow : Cond.code yX8_nextRow cX8_nextRow 6 (some .boolean) ∈ wsL_law := wsL_of (List.mem_append_right _ (List.mem_append_right _ (List.mem_append_right _ (List.mem_append_right _ (List.mem_of_getElem? (i := 0) rfl))))) rfl
theorem mn_X8_nextRow : Cond.instanceMethod yX8_nextRow ∈ wsL_law := wsL_of (List.mem_of_getElem? (i := 959) (by decide +kernel)) rfl
theorem mv_X8_nextRow : Cond.selects RX8 yX8_nextRow yX8_nextRow ∈ wsL_law := wsL_sel (List.mem_of_getElem? (i := 48) (by decide +kernel))
theorem mc_X8_even : Cond.code yX8_even cX8_even 8 (some .int) ∈ wsL_law := wsL_of (List.mem_append_right _ (List.mem_append_right _ (List.mem_append_right _ (List.mem_append_right _ (List.mem_of_getElem? (i := 4) rfl))))) rfl
theorem mn_X8_even : Cond.instanceMethod yX8_even ∈ wsL_law := wsL_of (List.mem_of_getElem? (i := 962) (by decide +kernel)) rfl
theorem mv_X8_even : Cond.selects RX8 yX8_even yX8_even ∈ wsL_law := wsL_of (List.mem_of_getElem? (i := 963) (by decide +kernel)) rfl
theorem mc_X8_areEven : Cond.code yX8_areEven cX8_areEven 4 (some .boolean) ∈ wsL_law := wsL_of (List.mem_append_right _ (List.mem_append_right _ (List.mem_append_right _ (List.mem_append_right _ (List.mem_of_getElem? (i := 8) rfl))))) rfl
theorem mn_X8_areEven : Cond.instanceMethod yX8_areEven ∈ wsL_law := wsL_of (List.mem_of_getElem? (i := 967) (by decide +kernel)) rfl
theorem mv_X8_areEven : Cond.selects RX8 yX8_areEven yX8_areEven ∈ wsL_law := wsL_sel (List.mem_of_getElem? (i := 49) (by decide +kernel))
theorem mc_X8_sumOf : Cond.code yX8_sumOf cX8_sumOf 4 (some .int) ∈ wsL_law := wsL_of (List.mem_append_right _ (List.mem_append_right _ (List.mem_append_right _ (List.mem_append_right _ (List.mem_of_getElem? (i := 12) rfl))))) rfl
theorem mn_X8_sumOf : Cond.instanceMethod yX8_sumOf ∈ wsL_law := wsL_of (List.mem_of_getElem? (i := 971) (by decide +kernel)) rfl
theorem mv_X8_sumOf : Cond.selects RX8 yX8_sumOf yX8_sumOf ∈ wsL_law := wsL_sel (List.mem_of_getElem? (i := 50) (by decide +kernel))
theorem mc_X8_odds : Cond.code yX8_odds cX8_odds 6 (some .long) ∈ wsL_law := wsL_of (List.mem_append_right _ (List.mem_append_right _ (List.mem_append_right _ (List.mem_append_right _ (List.mem_of_getElem? (i := 16) rfl))))) rfl
theorem mn_X8_odds : Cond.instanceMethod yX8_odds ∈ wsL_law := wsL_of (List.mem_of_getElem? (i := 974) (by decide +kernel)) rfl
theorem mv_X8_odds : Cond.selects RX8 yX8_odds yX8_odds ∈ wsL_law := wsL_of (List.mem_of_getElem? (i := 975) (by decide +kernel)) rfl
theorem mc_X8_share : Cond.code yX8_share cX8_share 11 (some .long) ∈ wsL_law := wsL_of (List.mem_append_right _ (List.mem_append_right _ (List.mem_append_right _ (List.mem_append_right _ (List.mem_of_getElem? (i := 20) rfl))))) rfl
theorem ms_X8_share : Cond.static yX8_share ∈ wsL_law := wsL_of (List.mem_of_getElem? (i := 979) (by decide +kernel)) rfl
theorem mc_X8_sheet : Cond.code yX8_sheet cX8_sheet 5 (some .int) ∈ wsL_law := wsL_of (List.mem_append_right _ (List.mem_append_right _ (List.mem_append_right _ (List.mem_append_right _ (List.mem_of_getElem? (i := 24) rfl))))) rfl
theorem mn_X8_sheet : Cond.instanceMethod yX8_sheet ∈ wsL_law := wsL_of (List.mem_of_getElem? (i := 982) (by decide +kernel)) rfl
theorem mv_X8_sheet : Cond.selects RX8 yX8_sheet yX8_sheet ∈ wsL_law := wsL_of (List.mem_of_getElem? (i := 983) (by decide +kernel)) rfl
theorem mc_X8_lose : Cond.code yX8_lose cX8_lose 3 (some .int) ∈ wsL_law := wsL_of (List.mem_append_right _ (List.mem_append_right _ (List.mem_append_right _ (List.mem_append_right _ (List.mem_of_getElem? (i := 28) rfl))))) rfl
theorem mn_X8_lose : Cond.instanceMethod yX8_lose ∈ wsL_law := wsL_of (List.mem_of_getElem? (i := 986) (by decide +kernel)) rfl
theorem mv_X8_lose : Cond.selects RX8 yX8_lose yX8_lose ∈ wsL_law := wsL_of (List.mem_of_getElem? (i := 987) (by decide +kernel)) rfl
theorem mc_X8_put : Cond.code yX8_put cX8_put 4 (some .int) ∈ wsL_law := wsL_of (List.mem_append_right _ (List.mem_append_right _ (List.mem_append_right _ (List.mem_append_right _ (List.mem_of_getElem? (i := 32) rfl))))) rfl
theorem mn_X8_put : Cond.instanceMethod yX8_put ∈ wsL_law := wsL_of (List.mem_of_getElem? (i := 990) (by decide +kernel)) rfl
theorem mv_X8_put : Cond.selects RX8 yX8_put yX8_put ∈ wsL_law := wsL_of (List.mem_of_getElem? (i := 991) (by decide +kernel)) rfl
theorem mc_X8_cell : Cond.code yX8_cell cX8_cell 4 (some .long) ∈ wsL_law := wsL_of (List.mem_append_right _ (List.mem_append_right _ (List.mem_append_right _ (List.mem_append_right _ (List.mem_of_getElem? (i := 36) rfl))))) rfl
theorem mn_X8_cell : Cond.instanceMethod yX8_cell ∈ wsL_law := wsL_of (List.mem_of_getElem? (i := 994) (by decide +kernel)) rfl
theorem mv_X8_cell : Cond.selects RX8 yX8_cell yX8_cell ∈ wsL_law := wsL_of (List.mem_of_getElem? (i := 995) (by decide +kernel)) rfl
theorem mc_X8_lost : Cond.code yX8_lost cX8_lost 2 (some .long) ∈ wsL_law := wsL_of (List.mem_append_right _ (List.mem_append_right _ (List.mem_append_right _ (List.mem_append_right _ (List.mem_of_getElem? (i := 40) rfl))))) rfl
theorem mn_X8_lost : Cond.instanceMethod yX8_lost ∈ wsL_law := wsL_of (List.mem_of_getElem? (i := 999) (by decide +kernel)) rfl
theorem mv_X8_lost : Cond.selects RX8 yX8_lost yX8_lost ∈ wsL_law := wsL_sel (List.mem_of_getElem? (i := 51) (by decide +kernel))
theorem mc_X8_copy : Cond.code yX8_copy cX8_copy 10 (some .int) ∈ wsL_law := wsL_of (List.mem_append_right _ (List.mem_append_right _ (List.mem_append_right _ (List.mem_append_right _ (List.mem_of_getElem? (i := 44) rfl))))) rfl
theorem mn_X8_copy : Cond.instanceMethod yX8_copy ∈ wsL_law := wsL_of (List.mem_of_getElem? (i := 1002) (by decide +kernel)) rfl
theorem mv_X8_copy : Cond.selects RX8 yX8_copy yX8_copy ∈ wsL_law := wsL_of (List.mem_of_getElem? (i := 1003) (by decide +kernel)) rfl
theorem mc_X8_tell : Cond.code yX8_tell cX8_tell 3 (some .int) ∈ wsL_law := wsL_of (List.mem_append_right _ (List.mem_append_right _ (List.mem_append_right _ (List.mem_append_right _ (List.mem_of_getElem? (i := 48) rfl))))) rfl
theorem mn_X8_tell : Cond.instanceMethod yX8_tell ∈ wsL_law := wsL_of (List.mem_of_getElem? (i := 1006) (by decide +kernel)) rfl
theorem mv_X8_tell : Cond.selects RX8 yX8_tell yX8_tell ∈ wsL_law := wsL_of (List.mem_of_getElem? (i := 1007) (by decide +kernel)) rfl
theorem mc_X8_begins : Cond.code yX8_begins cX8_begins 2 none ∈ wsL_law := wsL_of (List.mem_append_right _ (List.mem_append_right _ (List.mem_append_right _ (List.mem_append_right _ (List.mem_of_getElem? (i := 52) rfl))))) rfl
theorem mn_X8_begins : Cond.instanceMethod yX8_begins ∈ wsL_law := wsL_of (List.mem_of_getElem? (i := 1011) (by decide +kernel)) rfl
theorem mv_X8_begins : Cond.selects RX8 yX8_begins yX8_begins ∈ wsL_law := wsL_sel (List.mem_of_getElem? (i := 52) (by decide +kernel))
theorem mc_X8_shake : Cond.code yX8_shake cX8_shake 2 (some .int) ∈ wsL_law := wsL_of (List.mem_append_right _ (List.mem_append_right _ (List.mem_append_right _ (List.mem_append_right _ (List.mem_of_getElem? (i := 56) rfl))))) rfl
theorem mn_X8_shake : Cond.instanceMethod yX8_shake ∈ wsL_law := wsL_of (List.mem_of_getElem? (i := 1014) (by decide +kernel)) rfl
theorem mv_X8_shake : Cond.selects RX8 yX8_shake yX8_shake ∈ wsL_law := wsL_of (List.mem_of_getElem? (i := 1015) (by decide +kernel)) rfl
theorem mc_X8_as : Cond.code yX8_as cX8_as 3 (some .int) ∈ wsL_law := wsL_of (List.mem_append_right _ (List.mem_append_right _ (List.mem_append_right _ (List.mem_append_right _ (List.mem_of_getElem? (i := 60) rfl))))) rfl
theorem mn_X8_as : Cond.instanceMethod yX8_as ∈ wsL_law := wsL_of (List.mem_of_getElem? (i := 1018) (by decide +kernel)) rfl
theorem mv_X8_as : Cond.selects RX8 yX8_as yX8_as ∈ wsL_law := wsL_of (List.mem_of_getElem? (i := 1019) (by decide +kernel)) rfl
theorem mc_X8_trace : Cond.code yX8_trace cX8_trace 1 (some .int) ∈ wsL_law := wsL_of (List.mem_append_right _ (List.mem_append_right _ (List.mem_append_right _ (List.mem_append_right _ (List.mem_of_getElem? (i := 64) rfl))))) rfl
theorem mn_X8_trace : Cond.instanceMethod yX8_trace ∈ wsL_law := wsL_of (List.mem_of_getElem? (i := 1022) (by decide +kernel)) rfl
theorem mv_X8_trace : Cond.selects RX8 yX8_trace yX8_trace ∈ wsL_law := wsL_of (List.mem_of_getElem? (i := 1023) (by decide +kernel)) rfl
theorem mc_X8_fault : Cond.code yX8_fault cX8_fault 1 (some .int) ∈ wsL_law := wsL_of (List.mem_append_right _ (List.mem_append_right _ (List.mem_append_right _ (List.mem_append_right _ (List.mem_of_getElem? (i := 68) rfl))))) rfl
theorem mn_X8_fault : Cond.instanceMethod yX8_fault ∈ wsL_law := wsL_of (List.mem_of_getElem? (i := 1026) (by decide +kernel)) rfl
theorem mv_X8_fault : Cond.selects RX8 yX8_fault yX8_fault ∈ wsL_law := wsL_of (List.mem_of_getElem? (i := 1027) (by decide +kernel)) rfl
theorem mc_X8_many : Cond.code yX8_many cX8_many 2 (some .int) ∈ wsL_law := wsL_of (List.mem_append_right _ (List.mem_append_right _ (List.mem_append_right _ (List.mem_append_right _ (List.mem_of_getElem? (i := 72) rfl))))) rfl
theorem mn_X8_many : Cond.instanceMethod yX8_many ∈ wsL_law := wsL_of (List.mem_of_getElem? (i := 1030) (by decide +kernel)) rfl
theorem mv_X8_many : Cond.selects RX8 yX8_many yX8_many ∈ wsL_law := wsL_of (List.mem_of_getElem? (i := 1031) (by decide +kernel)) rfl
theorem ml_L_9 : Cond.methodLink RL 9 yX7_init ∈ wsL_law := wsL_of (List.mem_of_getElem? (i := 15) (by decide +kernel)) rfl
theorem ml_L_13 : Cond.methodLink RL 13 yX7_market ∈ wsL_law := wsL_of (List.mem_of_getElem? (i := 158) (by decide +kernel)) rfl
theorem ml_L_18 : Cond.methodLink RL 18 yX7_weight ∈ wsL_law := wsL_of (List.mem_of_getElem? (i := 226) (by decide +kernel)) rfl
theorem ml_L_23 : Cond.methodLink RL 23 yX7_weigh ∈ wsL_law := wsL_of (List.mem_of_getElem? (i := 239) (by decide +kernel)) rfl
theorem ml_L_28 : Cond.methodLink RL 28 yX7_hand ∈ wsL_law := wsL_of (List.mem_of_getElem? (i := 247) (by decide +kernel)) rfl
theorem ml_L_32 : Cond.methodLink RL 32 yX7_ofHand ∈ wsL_law := wsL_of (List.mem_of_getElem? (i := 258) (by decide +kernel)) rfl
theorem ml_L_36 : Cond.methodLink RL 36 yX7_tells ∈ wsL_law := wsL_of (List.mem_of_getElem? (i := 278) (by decide +kernel)) rfl
theorem ml_L_41 : Cond.methodLink RL 41 yX7_alike ∈ wsL_law := wsL_of (List.mem_of_getElem? (i := 292) (by decide +kernel)) rfl
theorem ml_L_45 : Cond.methodLink RL 45 yX7_finer ∈ wsL_law := wsL_of (List.mem_of_getElem? (i := 319) (by decide +kernel)) rfl
theorem ml_L_49 : Cond.methodLink RL 49 yX7_way ∈ wsL_law := wsL_of (List.mem_of_getElem? (i := 331) (by decide +kernel)) rfl
theorem ml_L_53 : Cond.methodLink RL 53 yX7_noon ∈ wsL_law := wsL_of (List.mem_of_getElem? (i := 360) (by decide +kernel)) rfl
theorem ml_L_57 : Cond.methodLink RL 57 yX7_gain ∈ wsL_law := wsL_of (List.mem_of_getElem? (i := 365) (by decide +kernel)) rfl
theorem ml_L_62 : Cond.methodLink RL 62 yX7_saying ∈ wsL_law := wsL_of (List.mem_of_getElem? (i := 383) (by decide +kernel)) rfl
theorem ml_L_66 : Cond.methodLink RL 66 yX7_back ∈ wsL_law := wsL_of (List.mem_of_getElem? (i := 391) (by decide +kernel)) rfl
theorem ml_L_70 : Cond.methodLink RL 70 yX7_untrue ∈ wsL_law := wsL_of (List.mem_of_getElem? (i := 404) (by decide +kernel)) rfl
theorem ml_L_75 : Cond.methodLink RL 75 yX7_leaves ∈ wsL_law := wsL_of (List.mem_of_getElem? (i := 426) (by decide +kernel)) rfl
theorem ml_L_79 : Cond.methodLink RL 79 yX7_breaks ∈ wsL_law := wsL_of (List.mem_of_getElem? (i := 434) (by decide +kernel)) rfl
theorem ml_L_83 : Cond.methodLink RL 83 yX7_rows ∈ wsL_law := wsL_of (List.mem_of_getElem? (i := 438) (by decide +kernel)) rfl
theorem ml_L_87 : Cond.methodLink RL 87 yX7_longest ∈ wsL_law := wsL_of (List.mem_of_getElem? (i := 458) (by decide +kernel)) rfl
theorem ml_L_91 : Cond.methodLink RL 91 yX7_crowd ∈ wsL_law := wsL_of (List.mem_of_getElem? (i := 470) (by decide +kernel)) rfl
theorem ml_L_95 : Cond.methodLink RL 95 yX7_measure ∈ wsL_law := wsL_of (List.mem_of_getElem? (i := 488) (by decide +kernel)) rfl
theorem ml_L_99 : Cond.methodLink RL 99 yX7_copies ∈ wsL_law := wsL_of (List.mem_of_getElem? (i := 496) (by decide +kernel)) rfl
theorem ml_L_104 : Cond.methodLink RL 104 yX7_bestRow ∈ wsL_law := wsL_of (List.mem_of_getElem? (i := 529) (by decide +kernel)) rfl
theorem ml_L_108 : Cond.methodLink RL 108 yX7_even ∈ wsL_law := wsL_of (List.mem_of_getElem? (i := 563) (by decide +kernel)) rfl
theorem ml_L_112 : Cond.methodLink RL 112 yX7_odds ∈ wsL_law := wsL_of (List.mem_of_getElem? (i := 573) (by decide +kernel)) rfl
theorem ml_L_117 : Cond.methodLink RL 117 yX7_sheet ∈ wsL_law := wsL_of (List.mem_of_getElem? (i := 585) (by decide +kernel)) rfl
theorem ml_L_121 : Cond.methodLink RL 121 yX7_lose ∈ wsL_law := wsL_of (List.mem_of_getElem? (i := 593) (by decide +kernel)) rfl
theorem ml_L_125 : Cond.methodLink RL 125 yX7_put ∈ wsL_law := wsL_of (List.mem_of_getElem? (i := 601) (by decide +kernel)) rfl
theorem ml_L_129 : Cond.methodLink RL 129 yX7_cell ∈ wsL_law := wsL_of (List.mem_of_getElem? (i := 614) (by decide +kernel)) rfl
theorem ml_L_134 : Cond.methodLink RL 134 yX7_copy ∈ wsL_law := wsL_of (List.mem_of_getElem? (i := 618) (by decide +kernel)) rfl
theorem ml_L_138 : Cond.methodLink RL 138 yX7_tell ∈ wsL_law := wsL_of (List.mem_of_getElem? (i := 630) (by decide +kernel)) rfl
theorem ml_L_142 : Cond.methodLink RL 142 yX7_shake ∈ wsL_law := wsL_of (List.mem_of_getElem? (i := 650) (by decide +kernel)) rfl
theorem ml_L_146 : Cond.methodLink RL 146 yX7_as ∈ wsL_law := wsL_of (List.mem_of_getElem? (i := 662) (by decide +kernel)) rfl
theorem ml_L_150 : Cond.methodLink RL 150 yX7_trace ∈ wsL_law := wsL_of (List.mem_of_getElem? (i := 666) (by decide +kernel)) rfl
theorem ml_L_154 : Cond.methodLink RL 154 yX7_fault ∈ wsL_law := wsL_of (List.mem_of_getElem? (i := 670) (by decide +kernel)) rfl
theorem ml_L_158 : Cond.methodLink RL 158 yX7_many ∈ wsL_law := wsL_of (List.mem_of_getElem? (i := 674) (by decide +kernel)) rfl
theorem ml_L_12 : Cond.methodLink RL 12 yX8_init ∈ wsL_law := wsL_of (List.mem_of_getElem? (i := 684) (by decide +kernel)) rfl
theorem ml_L_17 : Cond.methodLink RL 17 yX8_market ∈ wsL_law := wsL_of (List.mem_of_getElem? (i := 758) (by decide +kernel)) rfl
theorem ml_L_22 : Cond.methodLink RL 22 yX8_weight ∈ wsL_law := wsL_of (List.mem_of_getElem? (i := 783) (by decide +kernel)) rfl
theorem ml_L_27 : Cond.methodLink RL 27 yX8_weigh ∈ wsL_law := wsL_of (List.mem_of_getElem? (i := 791) (by decide +kernel)) rfl
theorem ml_L_31 : Cond.methodLink RL 31 yX8_hand ∈ wsL_law := wsL_of (List.mem_of_getElem? (i := 798) (by decide +kernel)) rfl
theorem ml_L_35 : Cond.methodLink RL 35 yX8_ofHand ∈ wsL_law := wsL_of (List.mem_of_getElem? (i := 802) (by decide +kernel)) rfl
theorem ml_L_40 : Cond.methodLink RL 40 yX8_tells ∈ wsL_law := wsL_of (List.mem_of_getElem? (i := 810) (by decide +kernel)) rfl
theorem ml_L_44 : Cond.methodLink RL 44 yX8_alike ∈ wsL_law := wsL_of (List.mem_of_getElem? (i := 822) (by decide +kernel)) rfl
theorem ml_L_48 : Cond.methodLink RL 48 yX8_finer ∈ wsL_law := wsL_of (List.mem_of_getElem? (i := 838) (by decide +kernel)) rfl
theorem ml_L_52 : Cond.methodLink RL 52 yX8_way ∈ wsL_law := wsL_of (List.mem_of_getElem? (i := 842) (by decide +kernel)) rfl
theorem ml_L_56 : Cond.methodLink RL 56 yX8_noon ∈ wsL_law := wsL_of (List.mem_of_getElem? (i := 854) (by decide +kernel)) rfl
theorem ml_L_61 : Cond.methodLink RL 61 yX8_gain ∈ wsL_law := wsL_of (List.mem_of_getElem? (i := 858) (by decide +kernel)) rfl
theorem ml_L_65 : Cond.methodLink RL 65 yX8_saying ∈ wsL_law := wsL_of (List.mem_of_getElem? (i := 866) (by decide +kernel)) rfl
theorem ml_L_69 : Cond.methodLink RL 69 yX8_back ∈ wsL_law := wsL_of (List.mem_of_getElem? (i := 870) (by decide +kernel)) rfl
theorem ml_L_74 : Cond.methodLink RL 74 yX8_untrue ∈ wsL_law := wsL_of (List.mem_of_getElem? (i := 874) (by decide +kernel)) rfl
theorem ml_L_78 : Cond.methodLink RL 78 yX8_leaves ∈ wsL_law := wsL_of (List.mem_of_getElem? (i := 882) (by decide +kernel)) rfl
theorem ml_L_82 : Cond.methodLink RL 82 yX8_breaks ∈ wsL_law := wsL_of (List.mem_of_getElem? (i := 890) (by decide +kernel)) rfl
theorem ml_L_86 : Cond.methodLink RL 86 yX8_rows ∈ wsL_law := wsL_of (List.mem_of_getElem? (i := 894) (by decide +kernel)) rfl
theorem ml_L_90 : Cond.methodLink RL 90 yX8_longest ∈ wsL_law := wsL_of (List.mem_of_getElem? (i := 906) (by decide +kernel)) rfl
theorem ml_L_94 : Cond.methodLink RL 94 yX8_crowd ∈ wsL_law := wsL_of (List.mem_of_getElem? (i := 910) (by decide +kernel)) rfl
theorem ml_L_98 : Cond.methodLink RL 98 yX8_measure ∈ wsL_law := wsL_of (List.mem_of_getElem? (i := 921) (by decide +kernel)) rfl
theorem ml_L_103 : Cond.methodLink RL 103 yX8_copies ∈ wsL_law := wsL_of (List.mem_of_getElem? (i := 925) (by decide +kernel)) rfl
theorem ml_L_107 : Cond.methodLink RL 107 yX8_bestRow ∈ wsL_law := wsL_of (List.mem_of_getElem? (i := 945) (by decide +kernel)) rfl
theorem ml_L_111 : Cond.methodLink RL 111 yX8_even ∈ wsL_law := wsL_of (List.mem_of_getElem? (i := 961) (by decide +kernel)) rfl
theorem ml_L_116 : Cond.methodLink RL 116 yX8_odds ∈ wsL_law := wsL_of (List.mem_of_getElem? (i := 973) (by decide +kernel)) rfl
theorem ml_L_120 : Cond.methodLink RL 120 yX8_sheet ∈ wsL_law := wsL_of (List.mem_of_getElem? (i := 981) (by decide +kernel)) rfl
theorem ml_L_124 : Cond.methodLink RL 124 yX8_lose ∈ wsL_law := wsL_of (List.mem_of_getElem? (i := 985) (by decide +kernel)) rfl
theorem ml_L_128 : Cond.methodLink RL 128 yX8_put ∈ wsL_law := wsL_of (List.mem_of_getElem? (i := 989) (by decide +kernel)) rfl
theorem ml_L_133 : Cond.methodLink RL 133 yX8_cell ∈ wsL_law := wsL_of (List.mem_of_getElem? (i := 993) (by decide +kernel)) rfl
theorem ml_L_137 : Cond.methodLink RL 137 yX8_copy ∈ wsL_law := wsL_of (List.mem_of_getElem? (i := 1001) (by decide +kernel)) rfl
theorem ml_L_141 : Cond.methodLink RL 141 yX8_tell ∈ wsL_law := wsL_of (List.mem_of_getElem? (i := 1005) (by decide +kernel)) rfl
theorem ml_L_145 : Cond.methodLink RL 145 yX8_shake ∈ wsL_law := wsL_of (List.mem_of_getElem? (i := 1013) (by decide +kernel)) rfl
theorem ml_L_149 : Cond.methodLink RL 149 yX8_as ∈ wsL_law := wsL_of (List.mem_of_getElem? (i := 1017) (by decide +kernel)) rfl
theorem ml_L_153 : Cond.methodLink RL 153 yX8_trace ∈ wsL_law := wsL_of (List.mem_of_getElem? (i := 1021) (by decide +kernel)) rfl
theorem ml_L_157 : Cond.methodLink RL 157 yX8_fault ∈ wsL_law := wsL_of (List.mem_of_getElem? (i := 1025) (by decide +kernel)) rfl
theorem ml_L_161 : Cond.methodLink RL 161 yX8_many ∈ wsL_law := wsL_of (List.mem_of_getElem? (i := 1029) (by decide +kernel)) rfl
theorem ml_X7_63 : Cond.methodLink RX7 63 yX3_has ∈ wsL_law := wsL_of (List.mem_of_getElem? (i := 162) (by decide +kernel)) rfl
theorem ml_X7_67 : Cond.methodLink RX7 67 yX7_isSort ∈ wsL_law := wsL_of (List.mem_of_getElem? (i := 166) (by decide +kernel)) rfl
theorem ml_X7_70 : Cond.methodLink RX7 70 yX3_faultOfTaking ∈ wsL_law := wsL_of (List.mem_of_getElem? (i := 169) (by decide +kernel)) rfl
theorem ml_X7_74 : Cond.methodLink RX7 74 yX7_faulty ∈ wsL_law := wsL_of (List.mem_of_getElem? (i := 186) (by decide +kernel)) rfl
theorem ml_X7_78 : Cond.methodLink RX7 78 yX5_firstFault ∈ wsL_law := wsL_of (List.mem_of_getElem? (i := 190) (by decide +kernel)) rfl
theorem ml_X7_84 : Cond.methodLink RX7 84 yX1_clear ∈ wsL_law := wsL_of (List.mem_of_getElem? (i := 203) (by decide +kernel)) rfl
theorem ml_X7_87 : Cond.methodLink RX7 87 yX2_clear ∈ wsL_law := wsL_of (List.mem_of_getElem? (i := 207) (by decide +kernel)) rfl
theorem ml_X7_88 : Cond.methodLink RX7 88 yX5_read ∈ wsL_law := wsL_of (List.mem_of_getElem? (i := 211) (by decide +kernel)) rfl
theorem ml_X7_92 : Cond.methodLink RX7 92 yX6_count ∈ wsL_law := wsL_of (List.mem_of_getElem? (i := 222) (by decide +kernel)) rfl
theorem ml_X7_96 : Cond.methodLink RX7 96 yX6_has ∈ wsL_law := wsL_of (List.mem_of_getElem? (i := 230) (by decide +kernel)) rfl
theorem ml_X7_97 : Cond.methodLink RX7 97 yX6_weightOf ∈ wsL_law := wsL_of (List.mem_of_getElem? (i := 234) (by decide +kernel)) rfl
theorem ml_X7_100 : Cond.methodLink RX7 100 yX6_setWeight ∈ wsL_law := wsL_of (List.mem_of_getElem? (i := 243) (by decide +kernel)) rfl
theorem ml_X7_104 : Cond.methodLink RX7 104 yX7_isKind ∈ wsL_law := wsL_of (List.mem_of_getElem? (i := 251) (by decide +kernel)) rfl
theorem ml_X7_107 : Cond.methodLink RX7 107 yX1_add ∈ wsL_law := wsL_of (List.mem_of_getElem? (i := 254) (by decide +kernel)) rfl
theorem ml_X7_111 : Cond.methodLink RX7 111 yX1_has ∈ wsL_law := wsL_of (List.mem_of_getElem? (i := 262) (by decide +kernel)) rfl
theorem ml_X7_112 : Cond.methodLink RX7 112 yX7_isFirstOrSecond ∈ wsL_law := wsL_of (List.mem_of_getElem? (i := 266) (by decide +kernel)) rfl
theorem ml_X7_115 : Cond.methodLink RX7 115 yX1_kindOf ∈ wsL_law := wsL_of (List.mem_of_getElem? (i := 269) (by decide +kernel)) rfl
theorem ml_X7_118 : Cond.methodLink RX7 118 yX1_partOf ∈ wsL_law := wsL_of (List.mem_of_getElem? (i := 274) (by decide +kernel)) rfl
theorem ml_X7_121 : Cond.methodLink RX7 121 yX1_feelsHeavier ∈ wsL_law := wsL_of (List.mem_of_getElem? (i := 282) (by decide +kernel)) rfl
theorem ml_X7_125 : Cond.methodLink RX7 125 yX4_lay ∈ wsL_law := wsL_of (List.mem_of_getElem? (i := 296) (by decide +kernel)) rfl
theorem ml_X7_129 : Cond.methodLink RX7 129 yX4_alikeTo ∈ wsL_law := wsL_of (List.mem_of_getElem? (i := 311) (by decide +kernel)) rfl
theorem ml_X7_132 : Cond.methodLink RX7 132 yX4_isFinerThan ∈ wsL_law := wsL_of (List.mem_of_getElem? (i := 323) (by decide +kernel)) rfl
theorem ml_X7_136 : Cond.methodLink RX7 136 yX4_fewestSwaps ∈ wsL_law := wsL_of (List.mem_of_getElem? (i := 335) (by decide +kernel)) rfl
theorem ml_X7_139 : Cond.methodLink RX7 139 yX4_behindSwaps ∈ wsL_law := wsL_of (List.mem_of_getElem? (i := 350) (by decide +kernel)) rfl
theorem ml_X7_143 : Cond.methodLink RX7 143 yX4_within ∈ wsL_law := wsL_of (List.mem_of_getElem? (i := 364) (by decide +kernel)) rfl
theorem ml_X7_146 : Cond.methodLink RX7 146 yX7_swappedUp ∈ wsL_law := wsL_of (List.mem_of_getElem? (i := 369) (by decide +kernel)) rfl
theorem ml_X7_152 : Cond.methodLink RX7 152 yX4_lighterThan ∈ wsL_law := wsL_of (List.mem_of_getElem? (i := 373) (by decide +kernel)) rfl
theorem ml_X7_149 : Cond.methodLink RX7 149 yX6_greatestOf ∈ wsL_law := wsL_of (List.mem_of_getElem? (i := 374) (by decide +kernel)) rfl
theorem ml_X7_155 : Cond.methodLink RX7 155 yX2_add ∈ wsL_law := wsL_of (List.mem_of_getElem? (i := 387) (by decide +kernel)) rfl
theorem ml_X7_157 : Cond.methodLink RX7 157 yX2_count ∈ wsL_law := wsL_of (List.mem_of_getElem? (i := 395) (by decide +kernel)) rfl
theorem ml_X7_158 : Cond.methodLink RX7 158 yX2_takeBack ∈ wsL_law := wsL_of (List.mem_of_getElem? (i := 399) (by decide +kernel)) rfl
theorem ml_X7_161 : Cond.methodLink RX7 161 yX2_firstOf ∈ wsL_law := wsL_of (List.mem_of_getElem? (i := 408) (by decide +kernel)) rfl
theorem ml_X7_164 : Cond.methodLink RX7 164 yX2_secondOf ∈ wsL_law := wsL_of (List.mem_of_getElem? (i := 416) (by decide +kernel)) rfl
theorem ml_X7_167 : Cond.methodLink RX7 167 yX2_isFalse ∈ wsL_law := wsL_of (List.mem_of_getElem? (i := 420) (by decide +kernel)) rfl
theorem ml_X7_171 : Cond.methodLink RX7 171 yX7_falseByWeight ∈ wsL_law := wsL_of (List.mem_of_getElem? (i := 430) (by decide +kernel)) rfl
theorem ml_X7_174 : Cond.methodLink RX7 174 yX4_countOrders ∈ wsL_law := wsL_of (List.mem_of_getElem? (i := 442) (by decide +kernel)) rfl
theorem ml_X7_177 : Cond.methodLink RX7 177 yX4_placeInFirstOrder ∈ wsL_law := wsL_of (List.mem_of_getElem? (i := 450) (by decide +kernel)) rfl
theorem ml_X7_180 : Cond.methodLink RX7 180 yX4_longestChain ∈ wsL_law := wsL_of (List.mem_of_getElem? (i := 462) (by decide +kernel)) rfl
theorem ml_X7_183 : Cond.methodLink RX7 183 yX4_greatestCrowd ∈ wsL_law := wsL_of (List.mem_of_getElem? (i := 474) (by decide +kernel)) rfl
theorem ml_X7_186 : Cond.methodLink RX7 186 yX4_othersAlikeTo ∈ wsL_law := wsL_of (List.mem_of_getElem? (i := 492) (by decide +kernel)) rfl
theorem ml_X7_189 : Cond.methodLink RX7 189 yX7_takeHandRow ∈ wsL_law := wsL_of (List.mem_of_getElem? (i := 500) (by decide +kernel)) rfl
theorem ml_X7_205 : Cond.methodLink RX7 205 yX0_clear ∈ wsL_law := wsL_of (List.mem_of_getElem? (i := 504) (by decide +kernel)) rfl
theorem ml_X7_206 : Cond.methodLink RX7 206 yX3_cellOf ∈ wsL_law := wsL_of (List.mem_of_getElem? (i := 508) (by decide +kernel)) rfl
theorem ml_X7_209 : Cond.methodLink RX7 209 yX0_add ∈ wsL_law := wsL_of (List.mem_of_getElem? (i := 509) (by decide +kernel)) rfl
theorem ml_X7_192 : Cond.methodLink RX7 192 yX0_greatestCopy ∈ wsL_law := wsL_of (List.mem_of_getElem? (i := 513) (by decide +kernel)) rfl
theorem ml_X7_196 : Cond.methodLink RX7 196 yX0_leastCopy ∈ wsL_law := wsL_of (List.mem_of_getElem? (i := 521) (by decide +kernel)) rfl
theorem ml_X7_199 : Cond.methodLink RX7 199 yX0_findBest ∈ wsL_law := wsL_of (List.mem_of_getElem? (i := 533) (by decide +kernel)) rfl
theorem ml_X7_202 : Cond.methodLink RX7 202 yX0_inBest ∈ wsL_law := wsL_of (List.mem_of_getElem? (i := 559) (by decide +kernel)) rfl
theorem ml_X7_212 : Cond.methodLink RX7 212 yX6_weightTogether ∈ wsL_law := wsL_of (List.mem_of_getElem? (i := 567) (by decide +kernel)) rfl
theorem ml_X7_215 : Cond.methodLink RX7 215 yJ6_bitCount_0f7a4 ∈ wsL_law := wsL_of (List.mem_of_getElem? (i := 571) (by decide +kernel)) rfl
theorem ml_X7_220 : Cond.methodLink RX7 220 yX1_feelsAlike ∈ wsL_law := wsL_of (List.mem_of_getElem? (i := 572) (by decide +kernel)) rfl
theorem ml_X7_225 : Cond.methodLink RX7 225 yX4_countTold ∈ wsL_law := wsL_of (List.mem_of_getElem? (i := 578) (by decide +kernel)) rfl
theorem ml_X7_228 : Cond.methodLink RX7 228 yX7_commonDivisor ∈ wsL_law := wsL_of (List.mem_of_getElem? (i := 582) (by decide +kernel)) rfl
theorem ml_X7_231 : Cond.methodLink RX7 231 yX3_renew ∈ wsL_law := wsL_of (List.mem_of_getElem? (i := 589) (by decide +kernel)) rfl
theorem ml_X7_235 : Cond.methodLink RX7 235 yX3_empty ∈ wsL_law := wsL_of (List.mem_of_getElem? (i := 597) (by decide +kernel)) rfl
theorem ml_X7_238 : Cond.methodLink RX7 238 yX3_hasRow ∈ wsL_law := wsL_of (List.mem_of_getElem? (i := 605) (by decide +kernel)) rfl
theorem ml_X7_241 : Cond.methodLink RX7 241 yX3_hasCells ∈ wsL_law := wsL_of (List.mem_of_getElem? (i := 606) (by decide +kernel)) rfl
theorem ml_X7_244 : Cond.methodLink RX7 244 yX3_setCell ∈ wsL_law := wsL_of (List.mem_of_getElem? (i := 607) (by decide +kernel)) rfl
theorem ml_X7_247 : Cond.methodLink RX7 247 yX3_sortOf ∈ wsL_law := wsL_of (List.mem_of_getElem? (i := 622) (by decide +kernel)) rfl
theorem ml_X7_250 : Cond.methodLink RX7 250 yX3_copyCells ∈ wsL_law := wsL_of (List.mem_of_getElem? (i := 623) (by decide +kernel)) rfl
theorem ml_X7_254 : Cond.methodLink RX7 254 yX7_smithBody ∈ wsL_law := wsL_of (List.mem_of_getElem? (i := 634) (by decide +kernel)) rfl
theorem ml_X7_270 : Cond.methodLink RX7 270 yX7_leaveTrace ∈ wsL_law := wsL_of (List.mem_of_getElem? (i := 638) (by decide +kernel)) rfl
theorem ml_X7_257 : Cond.methodLink RX7 257 yX7_steadyBody ∈ wsL_law := wsL_of (List.mem_of_getElem? (i := 642) (by decide +kernel)) rfl
theorem ml_X7_260 : Cond.methodLink RX7 260 yX7_handBody ∈ wsL_law := wsL_of (List.mem_of_getElem? (i := 646) (by decide +kernel)) rfl
theorem ml_X7_263 : Cond.methodLink RX7 263 yX7_smithsOwnBody ∈ wsL_law := wsL_of (List.mem_of_getElem? (i := 654) (by decide +kernel)) rfl
theorem ml_X7_266 : Cond.methodLink RX7 266 yX7_lentBody ∈ wsL_law := wsL_of (List.mem_of_getElem? (i := 658) (by decide +kernel)) rfl
theorem ml_X7_269 : Cond.methodLink RX7 269 yX1_count ∈ wsL_law := wsL_of (List.mem_of_getElem? (i := 678) (by decide +kernel)) rfl
theorem ml_X6_19 : Cond.methodLink RX6 19 yX6_has ∈ wsL_law := wsL_of (List.mem_of_getElem? (i := 238) (by decide +kernel)) rfl
theorem ml_X6_27 : Cond.methodLink RX6 27 yX6_weightOf ∈ wsL_law := wsL_of (List.mem_of_getElem? (i := 379) (by decide +kernel)) rfl
theorem ml_X6_31 : Cond.methodLink RX6 31 yJ9_max_7cf53 ∈ wsL_law := wsL_of (List.mem_of_getElem? (i := 380) (by decide +kernel)) rfl
theorem ml_X1_22 : Cond.methodLink RX1 22 yX1_has ∈ wsL_law := wsL_of (List.mem_of_getElem? (i := 273) (by decide +kernel)) rfl
theorem ml_X1_33 : Cond.methodLink RX1 33 yX1_timesOf ∈ wsL_law := wsL_of (List.mem_of_getElem? (i := 286) (by decide +kernel)) rfl
theorem ml_X1_26 : Cond.methodLink RX1 26 yX1_kindOf ∈ wsL_law := wsL_of (List.mem_of_getElem? (i := 290) (by decide +kernel)) rfl
theorem ml_X1_30 : Cond.methodLink RX1 30 yX1_partOf ∈ wsL_law := wsL_of (List.mem_of_getElem? (i := 291) (by decide +kernel)) rfl
theorem ml_X1_36 : Cond.methodLink RX1 36 yX1_feelsHeavier ∈ wsL_law := wsL_of (List.mem_of_getElem? (i := 310) (by decide +kernel)) rfl
theorem ml_X2_32 : Cond.methodLink RX2 32 yJ9_max_7cf53 ∈ wsL_law := wsL_of (List.mem_of_getElem? (i := 403) (by decide +kernel)) rfl
theorem ml_X2_28 : Cond.methodLink RX2 28 yX2_has ∈ wsL_law := wsL_of (List.mem_of_getElem? (i := 412) (by decide +kernel)) rfl
theorem ml_X2_38 : Cond.methodLink RX2 38 yX1_feelsHeavier ∈ wsL_law := wsL_of (List.mem_of_getElem? (i := 424) (by decide +kernel)) rfl
theorem ml_X2_44 : Cond.methodLink RX2 44 yX1_feelsAlike ∈ wsL_law := wsL_of (List.mem_of_getElem? (i := 425) (by decide +kernel)) rfl
theorem ml_X3_31 : Cond.methodLink RX3 31 yX3_hasRow ∈ wsL_law := wsL_of (List.mem_of_getElem? (i := 173) (by decide +kernel)) rfl
theorem ml_X3_27 : Cond.methodLink RX3 27 yX3_has ∈ wsL_law := wsL_of (List.mem_of_getElem? (i := 177) (by decide +kernel)) rfl
theorem ml_X3_34 : Cond.methodLink RX3 34 yX3_sortOf ∈ wsL_law := wsL_of (List.mem_of_getElem? (i := 178) (by decide +kernel)) rfl
theorem ml_X3_38 : Cond.methodLink RX3 38 yX3_hasCells ∈ wsL_law := wsL_of (List.mem_of_getElem? (i := 182) (by decide +kernel)) rfl
theorem ml_X3_42 : Cond.methodLink RX3 42 yX3_cut ∈ wsL_law := wsL_of (List.mem_of_getElem? (i := 611) (by decide +kernel)) rfl
theorem ml_X4_25 : Cond.methodLink RX4 25 yX6_count ∈ wsL_law := wsL_of (List.mem_of_getElem? (i := 300) (by decide +kernel)) rfl
theorem ml_X4_30 : Cond.methodLink RX4 30 yJ9_min_7cf53 ∈ wsL_law := wsL_of (List.mem_of_getElem? (i := 301) (by decide +kernel)) rfl
theorem ml_X4_36 : Cond.methodLink RX4 36 yX6_weightOf ∈ wsL_law := wsL_of (List.mem_of_getElem? (i := 304) (by decide +kernel)) rfl
theorem ml_X4_40 : Cond.methodLink RX4 40 yX1_feelsHeavier ∈ wsL_law := wsL_of (List.mem_of_getElem? (i := 305) (by decide +kernel)) rfl
theorem ml_X4_46 : Cond.methodLink RX4 46 yX1_feelsAlike ∈ wsL_law := wsL_of (List.mem_of_getElem? (i := 306) (by decide +kernel)) rfl
theorem ml_X4_49 : Cond.methodLink RX4 49 yX4_has ∈ wsL_law := wsL_of (List.mem_of_getElem? (i := 315) (by decide +kernel)) rfl
theorem ml_X4_61 : Cond.methodLink RX4 61 yX4_lighterThan ∈ wsL_law := wsL_of (List.mem_of_getElem? (i := 327) (by decide +kernel)) rfl
theorem ml_X4_71 : Cond.methodLink RX4 71 yX4_within ∈ wsL_law := wsL_of (List.mem_of_getElem? (i := 339) (by decide +kernel)) rfl
theorem ml_X4_64 : Cond.methodLink RX4 64 yX4_alikeToAny ∈ wsL_law := wsL_of (List.mem_of_getElem? (i := 343) (by decide +kernel)) rfl
theorem ml_X4_74 : Cond.methodLink RX4 74 yX4_fewestSwaps ∈ wsL_law := wsL_of (List.mem_of_getElem? (i := 354) (by decide +kernel)) rfl
theorem ml_X4_53 : Cond.methodLink RX4 53 yX4_alikeTo ∈ wsL_law := wsL_of (List.mem_of_getElem? (i := 355) (by decide +kernel)) rfl
theorem ml_X4_77 : Cond.methodLink RX4 77 yX4_leastIn ∈ wsL_law := wsL_of (List.mem_of_getElem? (i := 356) (by decide +kernel)) rfl
theorem ml_X4_80 : Cond.methodLink RX4 80 yX4_allThings ∈ wsL_law := wsL_of (List.mem_of_getElem? (i := 446) (by decide +kernel)) rfl
theorem ml_X4_83 : Cond.methodLink RX4 83 yX4_fittingBehind ∈ wsL_law := wsL_of (List.mem_of_getElem? (i := 454) (by decide +kernel)) rfl
theorem ml_X4_86 : Cond.methodLink RX4 86 yX4_heavierThanAny ∈ wsL_law := wsL_of (List.mem_of_getElem? (i := 466) (by decide +kernel)) rfl
theorem ml_X4_56 : Cond.methodLink RX4 56 yJ6_bitCount_0f7a4 ∈ wsL_law := wsL_of (List.mem_of_getElem? (i := 478) (by decide +kernel)) rfl
theorem ml_X4_89 : Cond.methodLink RX4 89 yX4_areAllAlike ∈ wsL_law := wsL_of (List.mem_of_getElem? (i := 484) (by decide +kernel)) rfl
theorem ml_X0_22 : Cond.methodLink RX0 22 yX1_greatestUntold ∈ wsL_law := wsL_of (List.mem_of_getElem? (i := 517) (by decide +kernel)) rfl
theorem ml_X0_28 : Cond.methodLink RX0 28 yX1_leastUntold ∈ wsL_law := wsL_of (List.mem_of_getElem? (i := 525) (by decide +kernel)) rfl
theorem ml_X0_38 : Cond.methodLink RX0 38 yX0_sortRow ∈ wsL_law := wsL_of (List.mem_of_getElem? (i := 537) (by decide +kernel)) rfl
theorem ml_X0_51 : Cond.methodLink RX0 51 yX0_exchange ∈ wsL_law := wsL_of (List.mem_of_getElem? (i := 541) (by decide +kernel)) rfl
theorem ml_X0_41 : Cond.methodLink RX0 41 yX0_spread ∈ wsL_law := wsL_of (List.mem_of_getElem? (i := 545) (by decide +kernel)) rfl
theorem ml_X0_31 : Cond.methodLink RX0 31 yX0_greatestCopy ∈ wsL_law := wsL_of (List.mem_of_getElem? (i := 549) (by decide +kernel)) rfl
theorem ml_X0_35 : Cond.methodLink RX0 35 yX0_leastCopy ∈ wsL_law := wsL_of (List.mem_of_getElem? (i := 550) (by decide +kernel)) rfl
theorem ml_X0_44 : Cond.methodLink RX0 44 yX0_keepAsBest ∈ wsL_law := wsL_of (List.mem_of_getElem? (i := 551) (by decide +kernel)) rfl
theorem ml_X0_47 : Cond.methodLink RX0 47 yX0_toNextOrder ∈ wsL_law := wsL_of (List.mem_of_getElem? (i := 555) (by decide +kernel)) rfl
theorem ml_X5_9 : Cond.methodLink RX5 9 yX5_goesOn ∈ wsL_law := wsL_of (List.mem_of_getElem? (i := 193) (by decide +kernel)) rfl
theorem ml_X5_15 : Cond.methodLink RX5 15 yX3_cellOf ∈ wsL_law := wsL_of (List.mem_of_getElem? (i := 196) (by decide +kernel)) rfl
theorem ml_X5_21 : Cond.methodLink RX5 21 yX5_number ∈ wsL_law := wsL_of (List.mem_of_getElem? (i := 200) (by decide +kernel)) rfl
theorem ml_X5_25 : Cond.methodLink RX5 25 yX6_clear ∈ wsL_law := wsL_of (List.mem_of_getElem? (i := 214) (by decide +kernel)) rfl
theorem ml_X5_30 : Cond.methodLink RX5 30 yX6_add ∈ wsL_law := wsL_of (List.mem_of_getElem? (i := 218) (by decide +kernel)) rfl
theorem ml_X8_71 : Cond.methodLink RX8 71 yX8_isSheet ∈ wsL_law := wsL_of (List.mem_of_getElem? (i := 762) (by decide +kernel)) rfl
theorem ml_X8_64 : Cond.methodLink RX8 64 yX8_within ∈ wsL_law := wsL_of (List.mem_of_getElem? (i := 765) (by decide +kernel)) rfl
theorem ml_X8_75 : Cond.methodLink RX8 75 yX8_isSort ∈ wsL_law := wsL_of (List.mem_of_getElem? (i := 768) (by decide +kernel)) rfl
theorem ml_X8_78 : Cond.methodLink RX8 78 yX8_against ∈ wsL_law := wsL_of (List.mem_of_getElem? (i := 771) (by decide +kernel)) rfl
theorem ml_X8_82 : Cond.methodLink RX8 82 yX8_fails ∈ wsL_law := wsL_of (List.mem_of_getElem? (i := 775) (by decide +kernel)) rfl
theorem ml_X8_89 : Cond.methodLink RX8 89 yX8_readMarket ∈ wsL_law := wsL_of (List.mem_of_getElem? (i := 779) (by decide +kernel)) rfl
theorem ml_X8_101 : Cond.methodLink RX8 101 yX8_isThing ∈ wsL_law := wsL_of (List.mem_of_getElem? (i := 787) (by decide +kernel)) rfl
theorem ml_X8_104 : Cond.methodLink RX8 104 yX8_isWeight ∈ wsL_law := wsL_of (List.mem_of_getElem? (i := 795) (by decide +kernel)) rfl
theorem ml_X8_107 : Cond.methodLink RX8 107 yX8_isHand ∈ wsL_law := wsL_of (List.mem_of_getElem? (i := 806) (by decide +kernel)) rfl
theorem ml_X8_113 : Cond.methodLink RX8 113 yX8_isTold ∈ wsL_law := wsL_of (List.mem_of_getElem? (i := 814) (by decide +kernel)) rfl
theorem ml_X8_110 : Cond.methodLink RX8 110 yX8_times ∈ wsL_law := wsL_of (List.mem_of_getElem? (i := 818) (by decide +kernel)) rfl
theorem ml_X8_122 : Cond.methodLink RX8 122 yX8_alikeTo ∈ wsL_law := wsL_of (List.mem_of_getElem? (i := 826) (by decide +kernel)) rfl
theorem ml_X8_119 : Cond.methodLink RX8 119 yX8_areAlike ∈ wsL_law := wsL_of (List.mem_of_getElem? (i := 830) (by decide +kernel)) rfl
theorem ml_X8_116 : Cond.methodLink RX8 116 yX8_tellsThem ∈ wsL_law := wsL_of (List.mem_of_getElem? (i := 834) (by decide +kernel)) rfl
theorem ml_X8_126 : Cond.methodLink RX8 126 yX8_findFar ∈ wsL_law := wsL_of (List.mem_of_getElem? (i := 846) (by decide +kernel)) rfl
theorem ml_X8_130 : Cond.methodLink RX8 130 yX8_nextOf ∈ wsL_law := wsL_of (List.mem_of_getElem? (i := 850) (by decide +kernel)) rfl
theorem ml_X8_133 : Cond.methodLink RX8 133 yX8_isGot ∈ wsL_law := wsL_of (List.mem_of_getElem? (i := 862) (by decide +kernel)) rfl
theorem ml_X8_137 : Cond.methodLink RX8 137 yX8_isSo ∈ wsL_law := wsL_of (List.mem_of_getElem? (i := 878) (by decide +kernel)) rfl
theorem ml_X8_140 : Cond.methodLink RX8 140 yX8_falseOf ∈ wsL_law := wsL_of (List.mem_of_getElem? (i := 886) (by decide +kernel)) rfl
theorem ml_X8_143 : Cond.methodLink RX8 143 yX8_inFirstRow ∈ wsL_law := wsL_of (List.mem_of_getElem? (i := 898) (by decide +kernel)) rfl
theorem ml_X8_146 : Cond.methodLink RX8 146 yX8_mayStand ∈ wsL_law := wsL_of (List.mem_of_getElem? (i := 902) (by decide +kernel)) rfl
theorem ml_X8_149 : Cond.methodLink RX8 149 yX8_bits ∈ wsL_law := wsL_of (List.mem_of_getElem? (i := 914) (by decide +kernel)) rfl
theorem ml_X8_152 : Cond.methodLink RX8 152 yX8_isCrowd ∈ wsL_law := wsL_of (List.mem_of_getElem? (i := 917) (by decide +kernel)) rfl
theorem ml_X8_162 : Cond.methodLink RX8 162 yX8_layRow ∈ wsL_law := wsL_of (List.mem_of_getElem? (i := 929) (by decide +kernel)) rfl
theorem ml_X8_166 : Cond.methodLink RX8 166 yX8_copied ∈ wsL_law := wsL_of (List.mem_of_getElem? (i := 933) (by decide +kernel)) rfl
theorem ml_X8_156 : Cond.methodLink RX8 156 yX8_greatest ∈ wsL_law := wsL_of (List.mem_of_getElem? (i := 937) (by decide +kernel)) rfl
theorem ml_X8_159 : Cond.methodLink RX8 159 yX8_least ∈ wsL_law := wsL_of (List.mem_of_getElem? (i := 941) (by decide +kernel)) rfl
theorem ml_X8_175 : Cond.methodLink RX8 175 yX8_findBestRow ∈ wsL_law := wsL_of (List.mem_of_getElem? (i := 949) (by decide +kernel)) rfl
theorem ml_X8_169 : Cond.methodLink RX8 169 yX8_exchange ∈ wsL_law := wsL_of (List.mem_of_getElem? (i := 953) (by decide +kernel)) rfl
theorem ml_X8_172 : Cond.methodLink RX8 172 yX8_nextRow ∈ wsL_law := wsL_of (List.mem_of_getElem? (i := 957) (by decide +kernel)) rfl
theorem ml_X8_181 : Cond.methodLink RX8 181 yX8_areEven ∈ wsL_law := wsL_of (List.mem_of_getElem? (i := 965) (by decide +kernel)) rfl
theorem ml_X8_178 : Cond.methodLink RX8 178 yX8_sumOf ∈ wsL_law := wsL_of (List.mem_of_getElem? (i := 969) (by decide +kernel)) rfl
theorem ml_X8_184 : Cond.methodLink RX8 184 yX8_share ∈ wsL_law := wsL_of (List.mem_of_getElem? (i := 978) (by decide +kernel)) rfl
theorem ml_X8_188 : Cond.methodLink RX8 188 yX8_lost ∈ wsL_law := wsL_of (List.mem_of_getElem? (i := 997) (by decide +kernel)) rfl
theorem ml_X8_195 : Cond.methodLink RX8 195 yX8_begins ∈ wsL_law := wsL_of (List.mem_of_getElem? (i := 1009) (by decide +kernel)) rfl
theorem mf_X6_9 : Cond.fieldLink RX6 9 "ByHand$Things" "count" "I" ∈ wsL_law := wsL_of (List.mem_of_getElem? (i := 27) (by decide +kernel)) rfl
theorem mf_X6_15 : Cond.fieldLink RX6 15 "ByHand$Things" "weights" "[I" ∈ wsL_law := wsL_of (List.mem_of_getElem? (i := 28) (by decide +kernel)) rfl
theorem mf_X1_9 : Cond.fieldLink RX1 9 "ByHand$Hands" "count" "I" ∈ wsL_law := wsL_of (List.mem_of_getElem? (i := 41) (by decide +kernel)) rfl
theorem mf_X1_15 : Cond.fieldLink RX1 15 "ByHand$Hands" "kinds" "[I" ∈ wsL_law := wsL_of (List.mem_of_getElem? (i := 42) (by decide +kernel)) rfl
theorem mf_X1_19 : Cond.fieldLink RX1 19 "ByHand$Hands" "parts" "[I" ∈ wsL_law := wsL_of (List.mem_of_getElem? (i := 43) (by decide +kernel)) rfl
theorem mf_X2_9 : Cond.fieldLink RX2 9 "ByHand$Sayings" "count" "I" ∈ wsL_law := wsL_of (List.mem_of_getElem? (i := 57) (by decide +kernel)) rfl
theorem mf_X2_15 : Cond.fieldLink RX2 15 "ByHand$Sayings" "sayers" "[I" ∈ wsL_law := wsL_of (List.mem_of_getElem? (i := 58) (by decide +kernel)) rfl
theorem mf_X2_19 : Cond.fieldLink RX2 19 "ByHand$Sayings" "firsts" "[I" ∈ wsL_law := wsL_of (List.mem_of_getElem? (i := 59) (by decide +kernel)) rfl
theorem mf_X2_22 : Cond.fieldLink RX2 22 "ByHand$Sayings" "seconds" "[I" ∈ wsL_law := wsL_of (List.mem_of_getElem? (i := 60) (by decide +kernel)) rfl
theorem mf_X2_25 : Cond.fieldLink RX2 25 "ByHand$Sayings" "words" "[I" ∈ wsL_law := wsL_of (List.mem_of_getElem? (i := 61) (by decide +kernel)) rfl
theorem mf_X3_9 : Cond.fieldLink RX3 9 "ByHand$Sheets" "filled" "[Z" ∈ wsL_law := wsL_of (List.mem_of_getElem? (i := 81) (by decide +kernel)) rfl
theorem mf_X3_15 : Cond.fieldLink RX3 15 "ByHand$Sheets" "sorts" "[I" ∈ wsL_law := wsL_of (List.mem_of_getElem? (i := 82) (by decide +kernel)) rfl
theorem mf_X3_19 : Cond.fieldLink RX3 19 "ByHand$Sheets" "lengths" "[I" ∈ wsL_law := wsL_of (List.mem_of_getElem? (i := 83) (by decide +kernel)) rfl
theorem mf_X3_24 : Cond.fieldLink RX3 24 "ByHand$Sheets" "cells" "[[I" ∈ wsL_law := wsL_of (List.mem_of_getElem? (i := 84) (by decide +kernel)) rfl
theorem mf_X4_9 : Cond.fieldLink RX4 9 "ByHand$Telling" "count" "I" ∈ wsL_law := wsL_of (List.mem_of_getElem? (i := 101) (by decide +kernel)) rfl
theorem mf_X4_15 : Cond.fieldLink RX4 15 "ByHand$Telling" "lighter" "[I" ∈ wsL_law := wsL_of (List.mem_of_getElem? (i := 102) (by decide +kernel)) rfl
theorem mf_X4_19 : Cond.fieldLink RX4 19 "ByHand$Telling" "alikes" "[I" ∈ wsL_law := wsL_of (List.mem_of_getElem? (i := 103) (by decide +kernel)) rfl
theorem mf_X4_22 : Cond.fieldLink RX4 22 "ByHand$Telling" "orders" "[I" ∈ wsL_law := wsL_of (List.mem_of_getElem? (i := 104) (by decide +kernel)) rfl
theorem mf_X0_9 : Cond.fieldLink RX0 9 "ByHand$HandRow" "count" "I" ∈ wsL_law := wsL_of (List.mem_of_getElem? (i := 120) (by decide +kernel)) rfl
theorem mf_X0_15 : Cond.fieldLink RX0 15 "ByHand$HandRow" "row" "[I" ∈ wsL_law := wsL_of (List.mem_of_getElem? (i := 121) (by decide +kernel)) rfl
theorem mf_X0_19 : Cond.fieldLink RX0 19 "ByHand$HandRow" "best" "[I" ∈ wsL_law := wsL_of (List.mem_of_getElem? (i := 122) (by decide +kernel)) rfl
theorem mf_X7_14 : Cond.fieldLink RX7 14 "ByHand" "things" "LByHand$Things;" ∈ wsL_law := wsL_of (List.mem_of_getElem? (i := 130) (by decide +kernel)) rfl
theorem mf_X7_21 : Cond.fieldLink RX7 21 "ByHand" "hands" "LByHand$Hands;" ∈ wsL_law := wsL_of (List.mem_of_getElem? (i := 131) (by decide +kernel)) rfl
theorem mf_X7_28 : Cond.fieldLink RX7 28 "ByHand" "sayings" "LByHand$Sayings;" ∈ wsL_law := wsL_of (List.mem_of_getElem? (i := 132) (by decide +kernel)) rfl
theorem mf_X7_35 : Cond.fieldLink RX7 35 "ByHand" "sheets" "LByHand$Sheets;" ∈ wsL_law := wsL_of (List.mem_of_getElem? (i := 133) (by decide +kernel)) rfl
theorem mf_X7_42 : Cond.fieldLink RX7 42 "ByHand" "telling" "LByHand$Telling;" ∈ wsL_law := wsL_of (List.mem_of_getElem? (i := 134) (by decide +kernel)) rfl
theorem mf_X7_46 : Cond.fieldLink RX7 46 "ByHand" "otherTelling" "LByHand$Telling;" ∈ wsL_law := wsL_of (List.mem_of_getElem? (i := 135) (by decide +kernel)) rfl
theorem mf_X7_52 : Cond.fieldLink RX7 52 "ByHand" "handRow" "LByHand$HandRow;" ∈ wsL_law := wsL_of (List.mem_of_getElem? (i := 136) (by decide +kernel)) rfl
theorem mf_X7_56 : Cond.fieldLink RX7 56 "ByHand" "traceLeft" "I" ∈ wsL_law := wsL_of (List.mem_of_getElem? (i := 137) (by decide +kernel)) rfl
theorem mf_X7_60 : Cond.fieldLink RX7 60 "ByHand" "latestFault" "I" ∈ wsL_law := wsL_of (List.mem_of_getElem? (i := 138) (by decide +kernel)) rfl
theorem mf_X8_58 : Cond.fieldLink RX8 58 "ByHandModel" "fault" "I" ∈ wsL_law := wsL_of (List.mem_of_getElem? (i := 688) (by decide +kernel)) rfl
theorem mf_X8_192 : Cond.fieldLink RX8 192 "ByHandModel" "trace" "I" ∈ wsL_law := wsL_of (List.mem_of_getElem? (i := 689) (by decide +kernel)) rfl
theorem mf_X8_9 : Cond.fieldLink RX8 9 "ByHandModel" "sorts" "[I" ∈ wsL_law := wsL_of (List.mem_of_getElem? (i := 690) (by decide +kernel)) rfl
theorem mf_X8_13 : Cond.fieldLink RX8 13 "ByHandModel" "sheetLong" "[I" ∈ wsL_law := wsL_of (List.mem_of_getElem? (i := 691) (by decide +kernel)) rfl
theorem mf_X8_16 : Cond.fieldLink RX8 16 "ByHandModel" "cells" "[I" ∈ wsL_law := wsL_of (List.mem_of_getElem? (i := 692) (by decide +kernel)) rfl
theorem mf_X8_68 : Cond.fieldLink RX8 68 "ByHandModel" "things" "I" ∈ wsL_law := wsL_of (List.mem_of_getElem? (i := 693) (by decide +kernel)) rfl
theorem mf_X8_19 : Cond.fieldLink RX8 19 "ByHandModel" "weight" "[I" ∈ wsL_law := wsL_of (List.mem_of_getElem? (i := 694) (by decide +kernel)) rfl
theorem mf_X8_86 : Cond.fieldLink RX8 86 "ByHandModel" "at" "I" ∈ wsL_law := wsL_of (List.mem_of_getElem? (i := 695) (by decide +kernel)) rfl
theorem mf_X8_92 : Cond.fieldLink RX8 92 "ByHandModel" "readThings" "I" ∈ wsL_law := wsL_of (List.mem_of_getElem? (i := 696) (by decide +kernel)) rfl
theorem mf_X8_22 : Cond.fieldLink RX8 22 "ByHandModel" "readWeight" "[I" ∈ wsL_law := wsL_of (List.mem_of_getElem? (i := 697) (by decide +kernel)) rfl
theorem mf_X8_95 : Cond.fieldLink RX8 95 "ByHandModel" "hands" "I" ∈ wsL_law := wsL_of (List.mem_of_getElem? (i := 698) (by decide +kernel)) rfl
theorem mf_X8_25 : Cond.fieldLink RX8 25 "ByHandModel" "kind" "[I" ∈ wsL_law := wsL_of (List.mem_of_getElem? (i := 699) (by decide +kernel)) rfl
theorem mf_X8_28 : Cond.fieldLink RX8 28 "ByHandModel" "part" "[I" ∈ wsL_law := wsL_of (List.mem_of_getElem? (i := 700) (by decide +kernel)) rfl
theorem mf_X8_31 : Cond.fieldLink RX8 31 "ByHandModel" "far" "[I" ∈ wsL_law := wsL_of (List.mem_of_getElem? (i := 701) (by decide +kernel)) rfl
theorem mf_X8_98 : Cond.fieldLink RX8 98 "ByHandModel" "sayings" "I" ∈ wsL_law := wsL_of (List.mem_of_getElem? (i := 702) (by decide +kernel)) rfl
theorem mf_X8_34 : Cond.fieldLink RX8 34 "ByHandModel" "saidBy" "[I" ∈ wsL_law := wsL_of (List.mem_of_getElem? (i := 703) (by decide +kernel)) rfl
theorem mf_X8_37 : Cond.fieldLink RX8 37 "ByHandModel" "saidFirst" "[I" ∈ wsL_law := wsL_of (List.mem_of_getElem? (i := 704) (by decide +kernel)) rfl
theorem mf_X8_40 : Cond.fieldLink RX8 40 "ByHandModel" "saidOther" "[I" ∈ wsL_law := wsL_of (List.mem_of_getElem? (i := 705) (by decide +kernel)) rfl
theorem mf_X8_43 : Cond.fieldLink RX8 43 "ByHandModel" "saidIs" "[I" ∈ wsL_law := wsL_of (List.mem_of_getElem? (i := 706) (by decide +kernel)) rfl
theorem mf_X8_46 : Cond.fieldLink RX8 46 "ByHandModel" "ways" "[I" ∈ wsL_law := wsL_of (List.mem_of_getElem? (i := 707) (by decide +kernel)) rfl
theorem mf_X8_49 : Cond.fieldLink RX8 49 "ByHandModel" "chain" "[I" ∈ wsL_law := wsL_of (List.mem_of_getElem? (i := 708) (by decide +kernel)) rfl
theorem mf_X8_52 : Cond.fieldLink RX8 52 "ByHandModel" "row" "[I" ∈ wsL_law := wsL_of (List.mem_of_getElem? (i := 709) (by decide +kernel)) rfl
theorem mf_X8_55 : Cond.fieldLink RX8 55 "ByHandModel" "bestIs" "[I" ∈ wsL_law := wsL_of (List.mem_of_getElem? (i := 710) (by decide +kernel)) rfl
theorem mk_J6_265 : Cond.constant RJ6 265 (1431655765) ∈ wsL_law := wsL_of (List.mem_of_getElem? (i := 481) (by decide +kernel)) rfl
theorem mk_J6_266 : Cond.constant RJ6 266 (858993459) ∈ wsL_law := wsL_of (List.mem_of_getElem? (i := 482) (by decide +kernel)) rfl
theorem mk_J6_267 : Cond.constant RJ6 267 (252645135) ∈ wsL_law := wsL_of (List.mem_of_getElem? (i := 483) (by decide +kernel)) rfl
theorem mk2_X7_223 : Cond.constantLong RX7 223 (-9223372036854775808) ∈ wsL_law := wsL_of (List.mem_of_getElem? (i := 577) (by decide +kernel)) rfl
theorem mk2_X8_62 : Cond.constantLong RX8 62 (-9223372036854775808) ∈ wsL_law := wsL_of (List.mem_of_getElem? (i := 977) (by decide +kernel)) rfl
theorem mcl_L_7 : Cond.classLink RL 7 RX7 ∈ wsL_law := wsL_of (List.mem_of_getElem? (i := 13) (by decide +kernel)) rfl
theorem mcl_L_10 : Cond.classLink RL 10 RX8 ∈ wsL_law := wsL_of (List.mem_of_getElem? (i := 682) (by decide +kernel)) rfl
theorem mcl_X7_11 : Cond.classLink RX7 11 RX6 ∈ wsL_law := wsL_of (List.mem_of_getElem? (i := 21) (by decide +kernel)) rfl
theorem mcl_X7_18 : Cond.classLink RX7 18 RX1 ∈ wsL_law := wsL_of (List.mem_of_getElem? (i := 35) (by decide +kernel)) rfl
theorem mcl_X7_25 : Cond.classLink RX7 25 RX2 ∈ wsL_law := wsL_of (List.mem_of_getElem? (i := 51) (by decide +kernel)) rfl
theorem mcl_X7_32 : Cond.classLink RX7 32 RX3 ∈ wsL_law := wsL_of (List.mem_of_getElem? (i := 73) (by decide +kernel)) rfl
theorem mcl_X7_39 : Cond.classLink RX7 39 RX4 ∈ wsL_law := wsL_of (List.mem_of_getElem? (i := 95) (by decide +kernel)) rfl
theorem mcl_X7_49 : Cond.classLink RX7 49 RX0 ∈ wsL_law := wsL_of (List.mem_of_getElem? (i := 114) (by decide +kernel)) rfl
theorem mw_X0 : ∀ w ∈ u_ws RX0 TX0 3, w ∈ wsL_law := by
  have h1 : ∀ w ∈ u_ws RX0 TX0 3, w ∈ tables_1 := by decide +kernel
  have h2 : (u_ws RX0 TX0 3).all goodWord = true := by decide +kernel
  exact fun w h => wsL_of (h1 w h) (List.all_eq_true.mp h2 w h)
theorem mw_X1 : ∀ w ∈ u_ws RX1 TX1 3, w ∈ wsL_law := by
  have h1 : ∀ w ∈ u_ws RX1 TX1 3, w ∈ tables_1 := by decide +kernel
  have h2 : (u_ws RX1 TX1 3).all goodWord = true := by decide +kernel
  exact fun w h => wsL_of (h1 w h) (List.all_eq_true.mp h2 w h)
theorem mw_X2 : ∀ w ∈ u_ws RX2 TX2 5, w ∈ wsL_law := by
  have h1 : ∀ w ∈ u_ws RX2 TX2 5, w ∈ tables_1 := by decide +kernel
  have h2 : (u_ws RX2 TX2 5).all goodWord = true := by decide +kernel
  exact fun w h => wsL_of (h1 w h) (List.all_eq_true.mp h2 w h)
theorem mw_X3 : ∀ w ∈ u_ws RX3 TX3 4, w ∈ wsL_law := by
  have h1 : ∀ w ∈ u_ws RX3 TX3 4, w ∈ tables_1 := by decide +kernel
  have h2 : (u_ws RX3 TX3 4).all goodWord = true := by decide +kernel
  exact fun w h => wsL_of (h1 w h) (List.all_eq_true.mp h2 w h)
theorem mw_X4 : ∀ w ∈ u_ws RX4 TX4 4, w ∈ wsL_law := by
  have h1 : ∀ w ∈ u_ws RX4 TX4 4, w ∈ tables_1 := by decide +kernel
  have h2 : (u_ws RX4 TX4 4).all goodWord = true := by decide +kernel
  exact fun w h => wsL_of (h1 w h) (List.all_eq_true.mp h2 w h)
theorem mw_X6 : ∀ w ∈ u_ws RX6 TX6 2, w ∈ wsL_law := by
  have h1 : ∀ w ∈ u_ws RX6 TX6 2, w ∈ tables_1 := by decide +kernel
  have h2 : (u_ws RX6 TX6 2).all goodWord = true := by decide +kernel
  exact fun w h => wsL_of (h1 w h) (List.all_eq_true.mp h2 w h)
theorem mw_X7 : ∀ w ∈ u_ws RX7 TX7 9, w ∈ wsL_law := by
  have h1 : ∀ w ∈ u_ws RX7 TX7 9, w ∈ tables_1 := by decide +kernel
  have h2 : (u_ws RX7 TX7 9).all goodWord = true := by decide +kernel
  exact fun w h => wsL_of (h1 w h) (List.all_eq_true.mp h2 w h)
theorem mw_X8 : ∀ w ∈ u_ws RX8 TX8 23, w ∈ wsL_law := by
  have h1 : ∀ w ∈ u_ws RX8 TX8 23, w ∈ tables_1 := by decide +kernel
  have h2 : (u_ws RX8 TX8 23).all goodWord = true := by decide +kernel
  exact fun w h => wsL_of (h1 w h) (List.all_eq_true.mp h2 w h)
end
section
/-! Nats in ints, cells put back by places -/
theorem nI_bv (n : Nat) : (nI n).toBitVec = BitVec.ofNat 32 n := rfl
theorem nI_and (a b : Nat) : nI a &&& nI b = nI (a &&& b) := by
  apply Int32.toBitVec_inj.mp
  rw [Int32.toBitVec_and, nI_bv, nI_bv, nI_bv, BitVec.ofNat_and]
theorem nI_or (a b : Nat) : nI a ||| nI b = nI (a ||| b) := by
  apply Int32.toBitVec_inj.mp
  rw [Int32.toBitVec_or, nI_bv, nI_bv, nI_bv, BitVec.ofNat_or]
/-- the bits of b that a has not -/
def sdiff (b a : Nat) : Nat := b ^^^ (b &&& a)
theorem sdiff_bit (b a i : Nat) : (sdiff b a).testBit i = (b.testBit i && !a.testBit i) := by
  simp only [sdiff, Nat.testBit_xor, Nat.testBit_and]
  cases b.testBit i <;> cases a.testBit i <;> rfl
theorem nI_sdiff (b a : Nat) : nI b &&& (nI a ^^^ (-1)) = nI (sdiff b a) := by
  apply Int32.toBitVec_inj.mp
  rw [Int32.toBitVec_and, Int32.toBitVec_xor, nI_bv, nI_bv, nI_bv]
  unfold sdiff
  rw [BitVec.ofNat_xor, BitVec.ofNat_and]
  generalize BitVec.ofNat 32 a = u
  generalize BitVec.ofNat 32 b = v
  show v &&& (u ^^^ BitVec.allOnes 32) = v ^^^ (v &&& u)
  ext i hi
  simp only [BitVec.getElem_and, BitVec.getElem_xor, BitVec.getElem_allOnes]
  cases v[i] <;> cases u[i] <;> rfl
theorem smod32 : ∀ k : Fin 32, ((nI k.1).toBitVec.smod 32).toNat = k.1 := by decide +kernel
theorem nI_31 {b : Nat} (hb : b < 32) : nI b &&& 31 = nI b := by
  rw [pk_andN (by omega) 5 (by decide), Nat.mod_eq_of_lt (by omega)]
theorem nI_shl1 {b : Nat} (hb : b < 32) : nI 1 <<< (nI b &&& 31) = nI (2 ^ b) := by
  rw [nI_31 hb]
  have h2 : (2 : Nat) ^ b ≤ 2 ^ 31 := Nat.pow_le_pow_right (by decide) (by omega)
  rw [pk_shlN (n := 1) (nI b) b (smod32 ⟨b, hb⟩) (by omega), Nat.one_mul]
theorem nI_shr {a b : Nat} (ha : a < 2 ^ 31) (hb : b < 32) : nI a >>> (nI b &&& 31) = nI (a / 2 ^ b) := by
  rw [nI_31 hb]
  exact pk_shrN ha (nI b) b (smod32 ⟨b, hb⟩)
/-- f, but v at i -/
def up (w : Nat → Nat) (i v : Nat) : Nat → Nat := fun j => if j = i then v else w j
theorem up_self (w : Nat → Nat) (i v : Nat) : up w i v i = v := by simp [up]
theorem up_ne (w : Nat → Nat) {i j : Nat} (v : Nat) (h : j ≠ i) : up w i v j = w j := by simp [up, h]
theorem upd_nI (w : Nat → Nat) (i v : Nat) : upd (fun j => nI (w j)) i (nI v) = fun j => nI (up w i v j) := by
  funext j
  by_cases h : j = i <;> simp [upd, up, h]
def vset : va_W → List Nat → va_W → va_W
  | ws, i :: is, d :: ds => vset (ws.set i d) is ds
  | ws, [], _ => ws
  | ws, _ :: _, [] => ws
theorem vset_get : ∀ (is : List Nat) (wo ws : va_W) (k : Nat) (q : Nat × va_E), is.length = wo.length → (vset ws is wo)[k]? = some q → (∃ j : Nat, is[j]? = some k ∧ wo[j]? = some q) ∨ (ws[k]? = some q ∧ k ∉ is)
  | [], wo, ws, k, q, _, h => by
    right
    refine ⟨?_, by simp⟩
    cases wo <;> exact h
  | i :: is, [], ws, k, q, hl, _ => by simp at hl
  | i :: is, d :: wo, ws, k, q, hl, h => by
    rcases vset_get is wo (ws.set i d) k q (by simpa using hl) h with ⟨j, h1, h2⟩ | ⟨h1, h2⟩
    · exact Or.inl ⟨j + 1, by simpa using h1, by simpa using h2⟩
    · by_cases e : k = i
      · subst e
        left
        refine ⟨0, by simp, ?_⟩
        have hlt : k < ws.length := by
          have := (List.getElem?_eq_some_iff.mp h1).1
          simpa using this
        rw [List.getElem?_set_self hlt] at h1
        simpa using h1
      · right
        rw [List.getElem?_set_ne (fun z => e z.symm)] at h1
        exact ⟨h1, by simp [e, h2]⟩
theorem vset_fst : ∀ (is : List Nat) (wo ws : va_W), (∀ (j i : Nat) (d : Nat × va_E), is[j]? = some i → wo[j]? = some d → (ws.map (fun q => q.1))[i]? = some d.1) → (vset ws is wo).map (fun q => q.1) = ws.map (fun q => q.1)
  | [], wo, ws, _ => by cases wo <;> rfl
  | i :: is, [], ws, _ => rfl
  | i :: is, d :: wo, ws, h => by
    have h0 := h 0 i d (by simp) (by simp)
    have e : (ws.set i d).map (fun q => q.1) = ws.map (fun q => q.1) := by
      apply List.ext_getElem?
      intro k
      rw [List.getElem?_map, List.getElem?_map]
      by_cases hk : k = i
      · subst hk
        rw [List.getElem?_map] at h0
        cases hw : ws[k]? with
        | none => rw [hw] at h0; simp at h0
        | some z =>
          rw [hw] at h0
          have hlt := (List.getElem?_eq_some_iff.mp hw).1
          rw [List.getElem?_set_self hlt]
          simpa using h0.symm
      · rw [List.getElem?_set_ne (fun z => hk z.symm)]
    show (vset (ws.set i d) is wo).map _ = _
    rw [vset_fst is wo (ws.set i d) (fun j i2 d2 h1 h2 => by rw [e]; exact h (j + 1) i2 d2 (by simpa using h1) (by simpa using h2)), e]
theorem va_D_fst {A : Nat → Prop} {ws ws' : va_W} (he : ws'.map (fun q => q.1) = ws.map (fun q => q.1)) (h : va_D A ws) : va_D A ws' := by
  have key : ∀ (i : Nat) (p : Nat × va_E), ws'[i]? = some p → ∃ q, ws[i]? = some q ∧ q.1 = p.1 := by
    intro i p hp
    have h1 : (ws'.map (fun q => q.1))[i]? = some p.1 := by rw [List.getElem?_map, hp]; rfl
    rw [he, List.getElem?_map] at h1
    cases hw : ws[i]? with
    | none => rw [hw] at h1; simp at h1
    | some z => rw [hw] at h1; exact ⟨z, rfl, by simpa using h1⟩
  refine ⟨fun i j p q hp hq e => ?_, fun k q hq => ?_⟩
  · obtain ⟨p', h1, h2⟩ := key i p hp
    obtain ⟨q', h3, h4⟩ := key j q hq
    exact h.1 i j p' q' h1 h3 (by rw [h2, h4, e])
  · obtain ⟨q', h3, h4⟩ := key k q hq
    rw [← h4]
    exact h.2 k q' h3
theorem filterMap_of_map {α β : Type} {f : α → Option β} : ∀ {l : List α} {w : List β}, l.map f = w.map some → l.filterMap f = w
  | [], [], _ => rfl
  | [], _ :: _, h => by simp at h
  | _ :: _, [], h => by simp at h
  | a :: l, b :: w, h => by
    have h1 : f a = some b := by simpa using (List.cons.inj (by simpa using h)).1
    have h2 : l.map f = w.map some := (List.cons.inj (by simpa using h)).2
    rw [List.filterMap_cons, h1, filterMap_of_map h2]
/-! the walk's own judgement: a context x, the pc, the locals by position, the operand stack, the cells -/
abbrev vG : Type := Launch × va_G × ClassId × ClassId × ClassId
abbrev gD (g : vG) : va_G := g.2.1
abbrev gI (g : vG) : ClassId := g.2.2.1
abbrev gZ (g : vG) : ClassId := g.2.2.2.1
abbrev gA (g : vG) : ClassId := g.2.2.2.2
abbrev gT (g : vG) : List (ClassId × FieldType) := [(gI g, .int), (gZ g, .boolean), (gA g, .array .int)]
/-- the links between nest mates -/
def vNw (U : State) : Prop := va_Nw (.methodLinkNest RX6 23 yX7_isIn RX7) U ∧ va_Nw (.methodLinkNest RX4 67 yX7_isIn RX7) U
theorem vNw.warm {s U : State} (hW : s.WarmedH U.vm) (h : vNw s) : vNw U := ⟨va_Nw.warmM hW h.1, va_Nw.warmM hW h.2⟩
theorem vNw.same {u U : State} (hv : u.vm = U.vm) (h : vNw u) : vNw U := ⟨va_Nw.same rfl hv h.1, va_Nw.same rfl hv h.2⟩
def vL (ls : Array Slot) (nL : Nat) (lv : List (Option Value)) : Prop := ls.size = nL ∧ lv_wf ls ∧ ∀ (i : Nat) (v : Value), lv[i]? = some (some v) → ls[i]? = some (.val v) ∧ v.category = 1
abbrev vX : Type := vG × Program × Env × Room × State × MethodId × Array Value × List Frame × Method × Code × Nat × Nat × (State → Prop) × (Nat → Prop) × Nat
def vM : vX → Nat → List (Option Value) → List Value → va_W → Prop
  | (g, p, e, R, s, m, args, below, meth, c, cells, slots, Q, A, nL), pc, lv, st, ws => ∀ (H : Heap) (locs : List Loc) (ls : Array Slot), va_P (gD g) vwCl ws H → va_D A ws → va_S A s.heap H locs → vL ls nL lv → W p g.1 e R s m args below meth c H locs cells slots Q (F0 m pc ls st)
def Ok : vX → vG → ByteArray → String → Room → Nat → Prop
  | (g, p, e, R, s, m, args, below, meth, c, cells, slots, Q, A, nL), g', cc, own, rm, nL' => g = g' ∧ R = rm ∧ nL = nL' ∧ p.tables.exec = Jvm.exec ∧ c.code = cc ∧ c.maxLocals = nL ∧ s.vm.findClass own = some m.cls ∧ (∀ w ∈ wsL_law, w.before args s = true) ∧ va_K (gD g) vwCl (gT g) s ∧ (∀ q : Nat, s.heap.size ≤ q → A q) ∧ meth.locks = false ∧ vNw s ∧ cells ≤ R.cells ∧ slots ≤ R.slots
/-- what a return needs -/
def Ret : vX → Option FieldType → Option Value → va_W → Prop
  | (g, p, e, R, s, m, args, below, meth, c, cells, slots, Q, A, nL), ret, r, wo => meth.sig.returnType = ret ∧ ∃ (Qc : Array Value → State → Outcome → State → Prop) (free : Addr → Prop), Q = MQ below Qc args s cells slots free ∧ (∀ q, A q → free q) ∧ ∀ (t : State) (H : Heap) (locs : List Loc), t.heap = H → s.WarmedH t.vm → va_P (gD g) vwCl wo H → va_S A s.heap H locs → Qc args s (.returned r) t
/-- a contract: from the cells wi, with these arguments, the method answers r and leaves the cells wo -/
def vPre (g : vG) (wi : va_W) (sz : Nat) (U : State) : Prop := U.heap.size = sz ∧ va_P (gD g) vwCl wi U.heap ∧ va_K (gD g) vwCl (gT g) U ∧ va_D (fun _ => True) wi ∧ vNw U
def vPost (g : vG) (wi : va_W) (r : Option Value) (wo : va_W) (sz : Nat) : Array Value → State → Outcome → State → Prop := fun _ st oc t => (oc = .returned r ∧ va_P (gD g) vwCl wo t.heap) ∧ va_F (va_A wi sz) st t
def Ct (g : vG) (y : MethodName) (cc : ByteArray) (maxL : Nat) (ret : Option FieldType) (rm : Room) (wi : va_W) (av : List Value) (r : Option Value) (wo : va_W) : Prop :=
  wo.map (fun q => q.1) = wi.map (fun q => q.1) ∧ ∀ sz : Nat, Met g.1 y (.code y cc maxL ret :: wsL_law) rm (va_Pc av (vPre g wi sz)) (vPost g wi r wo sz) 0 0 (va_A wi sz)
/-- a room by frames and words of locals, no cells -/
abbrev rmOf (f w : Nat) : Room := { frames := f, cells := 0, slots := 0, locals := w }
theorem vL_entry (av : List Value) (nL : Nat) (hn : av.length ≤ nL) (hc : ∀ v ∈ av, v.category = 1) : vL ((lg_sl av ++ List.replicate (nL - (lg_sl av).length) Slot.unset).toArray) nL (av.map some ++ List.replicate (nL - av.length) none) := by
  have hsl : ∀ (l : List Value), (∀ v ∈ l, v.category = 1) → (lg_sl l).length = l.length := by
    intro l
    induction l with
    | nil => intro _; rfl
    | cons v vs ih =>
      intro h
      have h1 : v.category = 1 := h v List.mem_cons_self
      have h2 := ih (fun w hw => h w (List.mem_cons_of_mem _ hw))
      have e : lg_sl (v :: vs) = Slot.val v :: lg_sl vs := by simp [lg_sl, h1]
      rw [e, List.length_cons, h2, List.length_cons]
  have har : ∀ (l : List Value) (k : Nat), (∀ v ∈ l, v.category = 1) → ∀ (i : Nat) (v : Value), l[i]? = some v → (k + i, v) ∈ lv_args k l := by
    intro l
    induction l with
    | nil => intro k _ i v h; simp at h
    | cons w ws ih =>
      intro k h i v hi
      have h1 : w.category = 1 := h w List.mem_cons_self
      cases i with
      | zero => simp at hi; subst hi; simp [lv_args]
      | succ i =>
        have h2 := ih (k + 1) (fun z hz => h z (List.mem_cons_of_mem _ hz)) i v (by simpa using hi)
        have h3 : (if w.category = 2 then k + 2 else k + 1) = k + 1 := by rw [if_neg (by omega)]
        unfold lv_args
        rw [h3]
        refine List.mem_cons_of_mem _ ?_
        rw [show k + (i + 1) = k + 1 + i by omega]
        exact h2
  have h0 := lv_entry av (n := nL) (by rw [hsl av hc]; exact hn)
  refine ⟨h0.1, h0.2.1, fun i v hi => ?_⟩
  have hi2 : av[i]? = some v := by
    by_cases hlt : i < av.length
    · rw [List.getElem?_append_left (by simpa using hlt)] at hi
      simpa using hi
    · rw [List.getElem?_append_right (by simpa using hlt)] at hi
      rw [List.getElem?_replicate] at hi
      split at hi <;> simp at hi
  have h1 := h0.2.2 (i, v) (by have := har av 0 hc i v hi2; simpa using this)
  exact ⟨h1, hc v (List.mem_of_getElem? hi2)⟩
theorem Ct.ofV {g : vG} {y : MethodName} {cc : ByteArray} {maxL : Nat} {ret : Option FieldType} {rm : Room} {wi wo : va_W} {av : List Value} {r : Option Value} (own : String) (hown : y.cls = own) (hy : plainName y.cls = true) (hcs : rm.cells = 0) (hsl : rm.slots = 0) (hwo : wo.map (fun q => q.1) = wi.map (fun q => q.1)) (hn : av.length ≤ maxL) (hc : ∀ v ∈ av, v.category = 1)
    (body : ∀ x : vX, Ok x g cc own rm maxL → Ret x ret r wo → vM x 0 (av.map some ++ List.replicate (maxL - av.length) none) [] wi) : Ct g y cc maxL ret rm wi av r wo := by
  refine ⟨hwo, fun sz => Met.ofW (cc := cc) (maxL := maxL) (ret := ret) hy rfl ?_⟩
  intro p e s m args below meth c s₁ B hml hv
  obtain ⟨rfl, hsz, hP, hK, hD0, hnw⟩ := hv
  have hts := atoms_spec (ws := .code y cc maxL ret :: wsL_law) B.pre
  have hfc : s.vm.findClass own = some m.cls := hown ▸ findClass_of_methodNamed B.named
  subst hsz
  have hb := body (g, p, e, (headSpec (.code y cc maxL ret :: wsL_law) rm).room, s, m, av.toArray, below, meth, c, 0, 0, MQ below (vPost g wi r wo s.heap.size) av.toArray s 0 0 (va_A wi s.heap.size), va_A wi s.heap.size, maxL)
    ⟨rfl, rfl, rfl, B.exec, B.bytes, hml, hfc, fun w hw => hts w (List.mem_cons_of_mem _ hw), hK, fun q hq => Or.inr hq, B.notSynchronized, hnw, Nat.zero_le _, Nat.zero_le _⟩
    ⟨B.returns, _, _, rfl, fun q h => h, fun t H locs ht hW hP2 hS => ⟨⟨rfl, by rw [ht]; exact hP2⟩, hS.F ht⟩⟩
  rw [lg_entry_eq]
  exact hb s.heap [] _ hP hD0.self va_S.rf (vL_entry av maxL hn hc)
theorem vM.le {x : vX} {pc : Nat} {lv : List (Option Value)} {st : List Value} {ws ws' : va_W} {st' : List Value} {lv' : List (Option Value)} (h1 : lv = lv') (h2 : st = st') (h3 : ws = ws') (k : vM x pc lv' st' ws') : vM x pc lv st ws := by subst h1; subst h2; subst h3; exact k
/-- forget locals -/
theorem vL.weak {ls : Array Slot} {nL : Nat} {lv lv' : List (Option Value)} (h : vL ls nL lv) (hw : ∀ (i : Nat) (v : Value), lv'[i]? = some (some v) → lv[i]? = some (some v)) : vL ls nL lv' := ⟨h.1, h.2.1, fun i v hi => h.2.2 i v (hw i v hi)⟩
/-- which local lists say less -/
def vfg : List (Option Value) → List (Option Value) → Prop
  | _, [] => True
  | a :: l, none :: l' => vfg l l'
  | a :: l, some b :: l' => a = some b ∧ vfg l l'
  | [], _ :: _ => False
theorem vfg_get : ∀ {l l' : List (Option Value)}, vfg l l' → ∀ (i : Nat) (v : Value), l'[i]? = some (some v) → l[i]? = some (some v)
  | _, [], _, i, v, h => by simp at h
  | a :: l, none :: l', h, 0, v, hi => by simp at hi
  | a :: l, none :: l', h, i + 1, v, hi => by
    have := vfg_get (l := l) (l' := l') h i v (by simpa using hi)
    simpa using this
  | a :: l, some b :: l', h, 0, v, hi => by
    have : b = v := by simpa using hi
    rw [← this]; simpa using h.1
  | a :: l, some b :: l', h, i + 1, v, hi => by
    have := vfg_get (l := l) (l' := l') h.2 i v (by simpa using hi)
    simpa using this
  | [], none :: _, h, _, _, _ => False.elim (by simp [vfg] at h)
  | [], some _ :: _, h, _, _, _ => False.elim (by simp [vfg] at h)
theorem vM.forget {x : vX} {pc : Nat} {lv lv' : List (Option Value)} {st : List Value} {ws : va_W} (h : vfg lv lv') (k : vM x pc lv' st ws) : vM x pc lv st ws := by
  obtain ⟨g, p, e, R, s, m, args, below, meth, c, cells, slots, Q, A, nL⟩ := x
  exact fun H locs ls hP hD hS hl => k H locs ls hP hD hS (hl.weak (vfg_get h))
theorem vL_enum {ls : Array Slot} {nL : Nat} {lv : List (Option Value)} (h : vL ls nL lv) : ∃ l : List (Nat × Value), lv_has ls nL l ∧ (∀ q ∈ l, q.2.category = 1) ∧ ∀ (i : Nat) (v : Value), lv[i]? = some (some v) → (i, v) ∈ l := by
  refine ⟨(List.range lv.length).filterMap (fun i => (lv[i]?).bind (fun o => o.map (fun v => (i, v)))), ⟨h.1, h.2.1, fun q hq => ?_⟩, fun q hq => ?_, fun i v hi => ?_⟩
  · obtain ⟨i, -, hi⟩ := List.mem_filterMap.mp hq
    rcases ho : lv[i]? with _ | _ | v
    · rw [ho] at hi; simp at hi
    · rw [ho] at hi; simp at hi
    · rw [ho] at hi
      have : q = (i, v) := by simpa using hi.symm
      rw [this]
      exact (h.2.2 i v ho).1
  · obtain ⟨i, -, hi⟩ := List.mem_filterMap.mp hq
    rcases ho : lv[i]? with _ | _ | v
    · rw [ho] at hi; simp at hi
    · rw [ho] at hi; simp at hi
    · rw [ho] at hi
      have : q = (i, v) := by simpa using hi.symm
      rw [this]
      exact (h.2.2 i v ho).2
  · refine List.mem_filterMap.mpr ⟨i, ?_, by rw [hi]; rfl⟩
    exact List.mem_range.mpr (List.getElem?_eq_some_iff.mp hi).1
theorem vL_store {ls' : Array Slot} {nL i : Nat} {w : Value} {lv : List (Option Value)} {l : List (Nat × Value)} (hl : ∀ q ∈ l, q.2.category = 1) (he : ∀ (j : Nat) (v : Value), lv[j]? = some (some v) → (j, v) ∈ l) (hw : w.category = 1) (h : lv_has ls' nL ((i, w) :: l.filter (fun q => !(q.1 == i) && !(q.1 + 1 == i && q.2.category == 2)))) : vL ls' nL (lv.set i (some w)) := by
  refine ⟨h.1, h.2.1, fun j v hj => ?_⟩
  by_cases e : j = i
  · subst e
    have hlen : j < lv.length := by
      have := (List.getElem?_eq_some_iff.mp hj).1
      simpa using this
    rw [List.getElem?_set_self hlen] at hj
    have : w = v := by simpa using hj
    subst this
    exact ⟨h.2.2 (j, w) List.mem_cons_self, hw⟩
  · rw [List.getElem?_set_ne (fun q => e q.symm)] at hj
    have hm := he j v hj
    have hc := hl _ hm
    refine ⟨h.2.2 (j, v) (List.mem_cons_of_mem _ (List.mem_filter.mpr ⟨hm, ?_⟩)), hc⟩
    have hc2 : v.category = 1 := hc
    simp [e, hc2]
def bN (b : Bool) : Nat := if b then 1 else 0
theorem bN_t {b : Bool} (h : b = true) : bN b = 1 := by simp [bN, h]
theorem bN_f {b : Bool} (h : b = false) : bN b = 0 := by simp [bN, h]
theorem bN_le (b : Bool) : bN b ≤ 1 := by cases b <;> simp [bN]
theorem nI_int (k : Nat) (v : Int32) (h : v = Int32.ofNat k) : Value.int v = .int (nI k) := by rw [h]; rfl
theorem vcI (a : Int32) : (Value.int a).category = 1 := rfl
section VMR
variable {x : vX} {g : vG} {cc : ByteArray} {own : String} {rm : Room} {nL : Nat} {pc : Nat} {lv : List (Option Value)} {st : List Value} {ws : va_W}
theorem v_iload_n0 (h : Ok x g cc own rm nL) {lt : List (Option Value)} {v : Int32} (hd : decode cc pc = .ok (.iload_n 0, 1)) (k : vM x (pc + 1) (some (.int v) :: lt) (.int v :: st) ws) : vM x pc (some (.int v) :: lt) (st) ws := by
  obtain ⟨g0, p, e, R, s, m, args, below, meth, c, cells, slots, Q, A, nL0⟩ := x
  obtain ⟨rfl, rfl, rfl, hx, hb, hml, hown, hts, hK, hA, hlk, hnw, hcl, hsl⟩ := h
  exact fun H locs ls hP hD hS hl => lv_iload_n hx hb hd rfl (hl.2.2 0 _ rfl).1 (k _ _ _ hP hD hS hl)
theorem v_iload0 (h : Ok x g cc own rm nL) {lt : List (Option Value)} {v : Int32} (hd : decode cc pc = .ok (.iload 0, 2)) (k : vM x (pc + 2) (some (.int v) :: lt) (.int v :: st) ws) : vM x pc (some (.int v) :: lt) (st) ws := by
  obtain ⟨g0, p, e, R, s, m, args, below, meth, c, cells, slots, Q, A, nL0⟩ := x
  obtain ⟨rfl, rfl, rfl, hx, hb, hml, hown, hts, hK, hA, hlk, hnw, hcl, hsl⟩ := h
  exact fun H locs ls hP hD hS hl => lv_iload hx hb hd (hl.2.2 0 _ rfl).1 (k _ _ _ hP hD hS hl)
theorem v_istore_n0 (h : Ok x g cc own rm nL) {lt : List (Option Value)} {lo : Option Value} {v : Int32} (hn : 0 < nL) (hd : decode cc pc = .ok (.istore_n 0, 1)) (k : vM x (pc + 1) (some (.int v) :: lt) st ws) : vM x pc (lo :: lt) (.int v :: st) ws := by
  obtain ⟨g0, p, e, R, s, m, args, below, meth, c, cells, slots, Q, A, nL0⟩ := x
  obtain ⟨rfl, rfl, rfl, hx, hb, hml, hown, hts, hK, hA, hlk, hnw, hcl, hsl⟩ := h
  intro H locs ls hP hD hS hl
  obtain ⟨l, q1, q2, q3⟩ := vL_enum hl
  exact lv_istore_n hx hb hd rfl q1 hn rfl (fun ls2 hl2 => k _ _ _ hP hD hS (by have q4 := vL_store q2 q3 rfl hl2; exact q4))
theorem v_istore0 (h : Ok x g cc own rm nL) {lt : List (Option Value)} {lo : Option Value} {v : Int32} (hn : 0 < nL) (hd : decode cc pc = .ok (.istore 0, 2)) (k : vM x (pc + 2) (some (.int v) :: lt) st ws) : vM x pc (lo :: lt) (.int v :: st) ws := by
  obtain ⟨g0, p, e, R, s, m, args, below, meth, c, cells, slots, Q, A, nL0⟩ := x
  obtain ⟨rfl, rfl, rfl, hx, hb, hml, hown, hts, hK, hA, hlk, hnw, hcl, hsl⟩ := h
  intro H locs ls hP hD hS hl
  obtain ⟨l, q1, q2, q3⟩ := vL_enum hl
  exact lv_istore hx hb hd q1 hn rfl (fun ls2 hl2 => k _ _ _ hP hD hS (by have q4 := vL_store q2 q3 rfl hl2; exact q4))
theorem v_aload_n0 (h : Ok x g cc own rm nL) {lt : List (Option Value)} {v : Nat} (hd : decode cc pc = .ok (.aload_n 0, 1)) (k : vM x (pc + 1) (some (.ref v) :: lt) (.ref v :: st) ws) : vM x pc (some (.ref v) :: lt) (st) ws := by
  obtain ⟨g0, p, e, R, s, m, args, below, meth, c, cells, slots, Q, A, nL0⟩ := x
  obtain ⟨rfl, rfl, rfl, hx, hb, hml, hown, hts, hK, hA, hlk, hnw, hcl, hsl⟩ := h
  exact fun H locs ls hP hD hS hl => lv_aload_n hx hb hd rfl (hl.2.2 0 _ rfl).1 (k _ _ _ hP hD hS hl)
theorem v_aload0 (h : Ok x g cc own rm nL) {lt : List (Option Value)} {v : Nat} (hd : decode cc pc = .ok (.aload 0, 2)) (k : vM x (pc + 2) (some (.ref v) :: lt) (.ref v :: st) ws) : vM x pc (some (.ref v) :: lt) (st) ws := by
  obtain ⟨g0, p, e, R, s, m, args, below, meth, c, cells, slots, Q, A, nL0⟩ := x
  obtain ⟨rfl, rfl, rfl, hx, hb, hml, hown, hts, hK, hA, hlk, hnw, hcl, hsl⟩ := h
  exact fun H locs ls hP hD hS hl => lv_aload hx hb hd (hl.2.2 0 _ rfl).1 (k _ _ _ hP hD hS hl)
theorem v_astore_n0 (h : Ok x g cc own rm nL) {lt : List (Option Value)} {lo : Option Value} {v : Nat} (hn : 0 < nL) (hd : decode cc pc = .ok (.astore_n 0, 1)) (k : vM x (pc + 1) (some (.ref v) :: lt) st ws) : vM x pc (lo :: lt) (.ref v :: st) ws := by
  obtain ⟨g0, p, e, R, s, m, args, below, meth, c, cells, slots, Q, A, nL0⟩ := x
  obtain ⟨rfl, rfl, rfl, hx, hb, hml, hown, hts, hK, hA, hlk, hnw, hcl, hsl⟩ := h
  intro H locs ls hP hD hS hl
  obtain ⟨l, q1, q2, q3⟩ := vL_enum hl
  exact lv_astore_n hx hb hd rfl q1 hn rfl (fun ls2 hl2 => k _ _ _ hP hD hS (by have q4 := vL_store q2 q3 rfl hl2; exact q4))
theorem v_astore0 (h : Ok x g cc own rm nL) {lt : List (Option Value)} {lo : Option Value} {v : Nat} (hn : 0 < nL) (hd : decode cc pc = .ok (.astore 0, 2)) (k : vM x (pc + 2) (some (.ref v) :: lt) st ws) : vM x pc (lo :: lt) (.ref v :: st) ws := by
  obtain ⟨g0, p, e, R, s, m, args, below, meth, c, cells, slots, Q, A, nL0⟩ := x
  obtain ⟨rfl, rfl, rfl, hx, hb, hml, hown, hts, hK, hA, hlk, hnw, hcl, hsl⟩ := h
  intro H locs ls hP hD hS hl
  obtain ⟨l, q1, q2, q3⟩ := vL_enum hl
  exact lv_astore hx hb hd q1 hn rfl (fun ls2 hl2 => k _ _ _ hP hD hS (by have q4 := vL_store q2 q3 rfl hl2; exact q4))
theorem v_iinc0 (h : Ok x g cc own rm nL) {lt : List (Option Value)} {v : Int32} {d : Int} (hn : 0 < nL) (hd : decode cc pc = .ok (.iinc 0 d, 3)) (k : vM x (pc + 3) (some (.int (v + Int32.ofInt d)) :: lt) st ws) : vM x pc (some (.int v) :: lt) st ws := by
  obtain ⟨g0, p, e, R, s, m, args, below, meth, c, cells, slots, Q, A, nL0⟩ := x
  obtain ⟨rfl, rfl, rfl, hx, hb, hml, hown, hts, hK, hA, hlk, hnw, hcl, hsl⟩ := h
  intro H locs ls hP hD hS hl
  obtain ⟨l, q1, q2, q3⟩ := vL_enum hl
  obtain ⟨kk, hkk⟩ := List.getElem?_of_mem (q3 0 _ rfl)
  exact lv_iinc hx hb hd q1 hkk rfl hn rfl (fun ls2 hl2 => k _ _ _ hP hD hS (by have q4 := vL_store q2 q3 rfl hl2; exact q4))
theorem v_iincN0 (h : Ok x g cc own rm nL) {lt : List (Option Value)} {v : Nat} (hn : 0 < nL) (hd : decode cc pc = .ok (.iinc 0 1, 3)) (k : vM x (pc + 3) (some (.int (nI (v + 1))) :: lt) st ws) : vM x pc (some (.int (nI v)) :: lt) st ws := by
  refine v_iinc0 h hn hd ?_
  rw [show nI v + Int32.ofInt 1 = nI (v + 1) from nI_1 v]
  exact k
theorem v_idecN0 (h : Ok x g cc own rm nL) {lt : List (Option Value)} {v : Nat} (hn : 0 < nL) (hd : decode cc pc = .ok (.iinc 0 (-1), 3)) (k : vM x (pc + 3) (some (.int (nI v)) :: lt) st ws) : vM x pc (some (.int (nI (v + 1))) :: lt) st ws := by
  refine v_iinc0 h hn hd ?_
  rw [show nI (v + 1) + Int32.ofInt (-1) = nI v from pk_m1 v]
  exact k
theorem v_iload_n1 (h : Ok x g cc own rm nL) {l0 : Option Value} {lt : List (Option Value)} {v : Int32} (hd : decode cc pc = .ok (.iload_n 1, 1)) (k : vM x (pc + 1) (l0 :: some (.int v) :: lt) (.int v :: st) ws) : vM x pc (l0 :: some (.int v) :: lt) (st) ws := by
  obtain ⟨g0, p, e, R, s, m, args, below, meth, c, cells, slots, Q, A, nL0⟩ := x
  obtain ⟨rfl, rfl, rfl, hx, hb, hml, hown, hts, hK, hA, hlk, hnw, hcl, hsl⟩ := h
  exact fun H locs ls hP hD hS hl => lv_iload_n hx hb hd rfl (hl.2.2 1 _ rfl).1 (k _ _ _ hP hD hS hl)
theorem v_iload1 (h : Ok x g cc own rm nL) {l0 : Option Value} {lt : List (Option Value)} {v : Int32} (hd : decode cc pc = .ok (.iload 1, 2)) (k : vM x (pc + 2) (l0 :: some (.int v) :: lt) (.int v :: st) ws) : vM x pc (l0 :: some (.int v) :: lt) (st) ws := by
  obtain ⟨g0, p, e, R, s, m, args, below, meth, c, cells, slots, Q, A, nL0⟩ := x
  obtain ⟨rfl, rfl, rfl, hx, hb, hml, hown, hts, hK, hA, hlk, hnw, hcl, hsl⟩ := h
  exact fun H locs ls hP hD hS hl => lv_iload hx hb hd (hl.2.2 1 _ rfl).1 (k _ _ _ hP hD hS hl)
theorem v_istore_n1 (h : Ok x g cc own rm nL) {l0 : Option Value} {lt : List (Option Value)} {lo : Option Value} {v : Int32} (hn : 1 < nL) (hd : decode cc pc = .ok (.istore_n 1, 1)) (k : vM x (pc + 1) (l0 :: some (.int v) :: lt) st ws) : vM x pc (l0 :: lo :: lt) (.int v :: st) ws := by
  obtain ⟨g0, p, e, R, s, m, args, below, meth, c, cells, slots, Q, A, nL0⟩ := x
  obtain ⟨rfl, rfl, rfl, hx, hb, hml, hown, hts, hK, hA, hlk, hnw, hcl, hsl⟩ := h
  intro H locs ls hP hD hS hl
  obtain ⟨l, q1, q2, q3⟩ := vL_enum hl
  exact lv_istore_n hx hb hd rfl q1 hn rfl (fun ls2 hl2 => k _ _ _ hP hD hS (by have q4 := vL_store q2 q3 rfl hl2; exact q4))
theorem v_istore1 (h : Ok x g cc own rm nL) {l0 : Option Value} {lt : List (Option Value)} {lo : Option Value} {v : Int32} (hn : 1 < nL) (hd : decode cc pc = .ok (.istore 1, 2)) (k : vM x (pc + 2) (l0 :: some (.int v) :: lt) st ws) : vM x pc (l0 :: lo :: lt) (.int v :: st) ws := by
  obtain ⟨g0, p, e, R, s, m, args, below, meth, c, cells, slots, Q, A, nL0⟩ := x
  obtain ⟨rfl, rfl, rfl, hx, hb, hml, hown, hts, hK, hA, hlk, hnw, hcl, hsl⟩ := h
  intro H locs ls hP hD hS hl
  obtain ⟨l, q1, q2, q3⟩ := vL_enum hl
  exact lv_istore hx hb hd q1 hn rfl (fun ls2 hl2 => k _ _ _ hP hD hS (by have q4 := vL_store q2 q3 rfl hl2; exact q4))
theorem v_aload_n1 (h : Ok x g cc own rm nL) {l0 : Option Value} {lt : List (Option Value)} {v : Nat} (hd : decode cc pc = .ok (.aload_n 1, 1)) (k : vM x (pc + 1) (l0 :: some (.ref v) :: lt) (.ref v :: st) ws) : vM x pc (l0 :: some (.ref v) :: lt) (st) ws := by
  obtain ⟨g0, p, e, R, s, m, args, below, meth, c, cells, slots, Q, A, nL0⟩ := x
  obtain ⟨rfl, rfl, rfl, hx, hb, hml, hown, hts, hK, hA, hlk, hnw, hcl, hsl⟩ := h
  exact fun H locs ls hP hD hS hl => lv_aload_n hx hb hd rfl (hl.2.2 1 _ rfl).1 (k _ _ _ hP hD hS hl)
theorem v_aload1 (h : Ok x g cc own rm nL) {l0 : Option Value} {lt : List (Option Value)} {v : Nat} (hd : decode cc pc = .ok (.aload 1, 2)) (k : vM x (pc + 2) (l0 :: some (.ref v) :: lt) (.ref v :: st) ws) : vM x pc (l0 :: some (.ref v) :: lt) (st) ws := by
  obtain ⟨g0, p, e, R, s, m, args, below, meth, c, cells, slots, Q, A, nL0⟩ := x
  obtain ⟨rfl, rfl, rfl, hx, hb, hml, hown, hts, hK, hA, hlk, hnw, hcl, hsl⟩ := h
  exact fun H locs ls hP hD hS hl => lv_aload hx hb hd (hl.2.2 1 _ rfl).1 (k _ _ _ hP hD hS hl)
theorem v_astore_n1 (h : Ok x g cc own rm nL) {l0 : Option Value} {lt : List (Option Value)} {lo : Option Value} {v : Nat} (hn : 1 < nL) (hd : decode cc pc = .ok (.astore_n 1, 1)) (k : vM x (pc + 1) (l0 :: some (.ref v) :: lt) st ws) : vM x pc (l0 :: lo :: lt) (.ref v :: st) ws := by
  obtain ⟨g0, p, e, R, s, m, args, below, meth, c, cells, slots, Q, A, nL0⟩ := x
  obtain ⟨rfl, rfl, rfl, hx, hb, hml, hown, hts, hK, hA, hlk, hnw, hcl, hsl⟩ := h
  intro H locs ls hP hD hS hl
  obtain ⟨l, q1, q2, q3⟩ := vL_enum hl
  exact lv_astore_n hx hb hd rfl q1 hn rfl (fun ls2 hl2 => k _ _ _ hP hD hS (by have q4 := vL_store q2 q3 rfl hl2; exact q4))
theorem v_astore1 (h : Ok x g cc own rm nL) {l0 : Option Value} {lt : List (Option Value)} {lo : Option Value} {v : Nat} (hn : 1 < nL) (hd : decode cc pc = .ok (.astore 1, 2)) (k : vM x (pc + 2) (l0 :: some (.ref v) :: lt) st ws) : vM x pc (l0 :: lo :: lt) (.ref v :: st) ws := by
  obtain ⟨g0, p, e, R, s, m, args, below, meth, c, cells, slots, Q, A, nL0⟩ := x
  obtain ⟨rfl, rfl, rfl, hx, hb, hml, hown, hts, hK, hA, hlk, hnw, hcl, hsl⟩ := h
  intro H locs ls hP hD hS hl
  obtain ⟨l, q1, q2, q3⟩ := vL_enum hl
  exact lv_astore hx hb hd q1 hn rfl (fun ls2 hl2 => k _ _ _ hP hD hS (by have q4 := vL_store q2 q3 rfl hl2; exact q4))
theorem v_iinc1 (h : Ok x g cc own rm nL) {l0 : Option Value} {lt : List (Option Value)} {v : Int32} {d : Int} (hn : 1 < nL) (hd : decode cc pc = .ok (.iinc 1 d, 3)) (k : vM x (pc + 3) (l0 :: some (.int (v + Int32.ofInt d)) :: lt) st ws) : vM x pc (l0 :: some (.int v) :: lt) st ws := by
  obtain ⟨g0, p, e, R, s, m, args, below, meth, c, cells, slots, Q, A, nL0⟩ := x
  obtain ⟨rfl, rfl, rfl, hx, hb, hml, hown, hts, hK, hA, hlk, hnw, hcl, hsl⟩ := h
  intro H locs ls hP hD hS hl
  obtain ⟨l, q1, q2, q3⟩ := vL_enum hl
  obtain ⟨kk, hkk⟩ := List.getElem?_of_mem (q3 1 _ rfl)
  exact lv_iinc hx hb hd q1 hkk rfl hn rfl (fun ls2 hl2 => k _ _ _ hP hD hS (by have q4 := vL_store q2 q3 rfl hl2; exact q4))
theorem v_iincN1 (h : Ok x g cc own rm nL) {l0 : Option Value} {lt : List (Option Value)} {v : Nat} (hn : 1 < nL) (hd : decode cc pc = .ok (.iinc 1 1, 3)) (k : vM x (pc + 3) (l0 :: some (.int (nI (v + 1))) :: lt) st ws) : vM x pc (l0 :: some (.int (nI v)) :: lt) st ws := by
  refine v_iinc1 h hn hd ?_
  rw [show nI v + Int32.ofInt 1 = nI (v + 1) from nI_1 v]
  exact k
theorem v_idecN1 (h : Ok x g cc own rm nL) {l0 : Option Value} {lt : List (Option Value)} {v : Nat} (hn : 1 < nL) (hd : decode cc pc = .ok (.iinc 1 (-1), 3)) (k : vM x (pc + 3) (l0 :: some (.int (nI v)) :: lt) st ws) : vM x pc (l0 :: some (.int (nI (v + 1))) :: lt) st ws := by
  refine v_iinc1 h hn hd ?_
  rw [show nI (v + 1) + Int32.ofInt (-1) = nI v from pk_m1 v]
  exact k
theorem v_iload_n2 (h : Ok x g cc own rm nL) {l0 l1 : Option Value} {lt : List (Option Value)} {v : Int32} (hd : decode cc pc = .ok (.iload_n 2, 1)) (k : vM x (pc + 1) (l0 :: l1 :: some (.int v) :: lt) (.int v :: st) ws) : vM x pc (l0 :: l1 :: some (.int v) :: lt) (st) ws := by
  obtain ⟨g0, p, e, R, s, m, args, below, meth, c, cells, slots, Q, A, nL0⟩ := x
  obtain ⟨rfl, rfl, rfl, hx, hb, hml, hown, hts, hK, hA, hlk, hnw, hcl, hsl⟩ := h
  exact fun H locs ls hP hD hS hl => lv_iload_n hx hb hd rfl (hl.2.2 2 _ rfl).1 (k _ _ _ hP hD hS hl)
theorem v_iload2 (h : Ok x g cc own rm nL) {l0 l1 : Option Value} {lt : List (Option Value)} {v : Int32} (hd : decode cc pc = .ok (.iload 2, 2)) (k : vM x (pc + 2) (l0 :: l1 :: some (.int v) :: lt) (.int v :: st) ws) : vM x pc (l0 :: l1 :: some (.int v) :: lt) (st) ws := by
  obtain ⟨g0, p, e, R, s, m, args, below, meth, c, cells, slots, Q, A, nL0⟩ := x
  obtain ⟨rfl, rfl, rfl, hx, hb, hml, hown, hts, hK, hA, hlk, hnw, hcl, hsl⟩ := h
  exact fun H locs ls hP hD hS hl => lv_iload hx hb hd (hl.2.2 2 _ rfl).1 (k _ _ _ hP hD hS hl)
theorem v_istore_n2 (h : Ok x g cc own rm nL) {l0 l1 : Option Value} {lt : List (Option Value)} {lo : Option Value} {v : Int32} (hn : 2 < nL) (hd : decode cc pc = .ok (.istore_n 2, 1)) (k : vM x (pc + 1) (l0 :: l1 :: some (.int v) :: lt) st ws) : vM x pc (l0 :: l1 :: lo :: lt) (.int v :: st) ws := by
  obtain ⟨g0, p, e, R, s, m, args, below, meth, c, cells, slots, Q, A, nL0⟩ := x
  obtain ⟨rfl, rfl, rfl, hx, hb, hml, hown, hts, hK, hA, hlk, hnw, hcl, hsl⟩ := h
  intro H locs ls hP hD hS hl
  obtain ⟨l, q1, q2, q3⟩ := vL_enum hl
  exact lv_istore_n hx hb hd rfl q1 hn rfl (fun ls2 hl2 => k _ _ _ hP hD hS (by have q4 := vL_store q2 q3 rfl hl2; exact q4))
theorem v_istore2 (h : Ok x g cc own rm nL) {l0 l1 : Option Value} {lt : List (Option Value)} {lo : Option Value} {v : Int32} (hn : 2 < nL) (hd : decode cc pc = .ok (.istore 2, 2)) (k : vM x (pc + 2) (l0 :: l1 :: some (.int v) :: lt) st ws) : vM x pc (l0 :: l1 :: lo :: lt) (.int v :: st) ws := by
  obtain ⟨g0, p, e, R, s, m, args, below, meth, c, cells, slots, Q, A, nL0⟩ := x
  obtain ⟨rfl, rfl, rfl, hx, hb, hml, hown, hts, hK, hA, hlk, hnw, hcl, hsl⟩ := h
  intro H locs ls hP hD hS hl
  obtain ⟨l, q1, q2, q3⟩ := vL_enum hl
  exact lv_istore hx hb hd q1 hn rfl (fun ls2 hl2 => k _ _ _ hP hD hS (by have q4 := vL_store q2 q3 rfl hl2; exact q4))
theorem v_aload_n2 (h : Ok x g cc own rm nL) {l0 l1 : Option Value} {lt : List (Option Value)} {v : Nat} (hd : decode cc pc = .ok (.aload_n 2, 1)) (k : vM x (pc + 1) (l0 :: l1 :: some (.ref v) :: lt) (.ref v :: st) ws) : vM x pc (l0 :: l1 :: some (.ref v) :: lt) (st) ws := by
  obtain ⟨g0, p, e, R, s, m, args, below, meth, c, cells, slots, Q, A, nL0⟩ := x
  obtain ⟨rfl, rfl, rfl, hx, hb, hml, hown, hts, hK, hA, hlk, hnw, hcl, hsl⟩ := h
  exact fun H locs ls hP hD hS hl => lv_aload_n hx hb hd rfl (hl.2.2 2 _ rfl).1 (k _ _ _ hP hD hS hl)
theorem v_aload2 (h : Ok x g cc own rm nL) {l0 l1 : Option Value} {lt : List (Option Value)} {v : Nat} (hd : decode cc pc = .ok (.aload 2, 2)) (k : vM x (pc + 2) (l0 :: l1 :: some (.ref v) :: lt) (.ref v :: st) ws) : vM x pc (l0 :: l1 :: some (.ref v) :: lt) (st) ws := by
  obtain ⟨g0, p, e, R, s, m, args, below, meth, c, cells, slots, Q, A, nL0⟩ := x
  obtain ⟨rfl, rfl, rfl, hx, hb, hml, hown, hts, hK, hA, hlk, hnw, hcl, hsl⟩ := h
  exact fun H locs ls hP hD hS hl => lv_aload hx hb hd (hl.2.2 2 _ rfl).1 (k _ _ _ hP hD hS hl)
theorem v_astore_n2 (h : Ok x g cc own rm nL) {l0 l1 : Option Value} {lt : List (Option Value)} {lo : Option Value} {v : Nat} (hn : 2 < nL) (hd : decode cc pc = .ok (.astore_n 2, 1)) (k : vM x (pc + 1) (l0 :: l1 :: some (.ref v) :: lt) st ws) : vM x pc (l0 :: l1 :: lo :: lt) (.ref v :: st) ws := by
  obtain ⟨g0, p, e, R, s, m, args, below, meth, c, cells, slots, Q, A, nL0⟩ := x
  obtain ⟨rfl, rfl, rfl, hx, hb, hml, hown, hts, hK, hA, hlk, hnw, hcl, hsl⟩ := h
  intro H locs ls hP hD hS hl
  obtain ⟨l, q1, q2, q3⟩ := vL_enum hl
  exact lv_astore_n hx hb hd rfl q1 hn rfl (fun ls2 hl2 => k _ _ _ hP hD hS (by have q4 := vL_store q2 q3 rfl hl2; exact q4))
theorem v_astore2 (h : Ok x g cc own rm nL) {l0 l1 : Option Value} {lt : List (Option Value)} {lo : Option Value} {v : Nat} (hn : 2 < nL) (hd : decode cc pc = .ok (.astore 2, 2)) (k : vM x (pc + 2) (l0 :: l1 :: some (.ref v) :: lt) st ws) : vM x pc (l0 :: l1 :: lo :: lt) (.ref v :: st) ws := by
  obtain ⟨g0, p, e, R, s, m, args, below, meth, c, cells, slots, Q, A, nL0⟩ := x
  obtain ⟨rfl, rfl, rfl, hx, hb, hml, hown, hts, hK, hA, hlk, hnw, hcl, hsl⟩ := h
  intro H locs ls hP hD hS hl
  obtain ⟨l, q1, q2, q3⟩ := vL_enum hl
  exact lv_astore hx hb hd q1 hn rfl (fun ls2 hl2 => k _ _ _ hP hD hS (by have q4 := vL_store q2 q3 rfl hl2; exact q4))
theorem v_iinc2 (h : Ok x g cc own rm nL) {l0 l1 : Option Value} {lt : List (Option Value)} {v : Int32} {d : Int} (hn : 2 < nL) (hd : decode cc pc = .ok (.iinc 2 d, 3)) (k : vM x (pc + 3) (l0 :: l1 :: some (.int (v + Int32.ofInt d)) :: lt) st ws) : vM x pc (l0 :: l1 :: some (.int v) :: lt) st ws := by
  obtain ⟨g0, p, e, R, s, m, args, below, meth, c, cells, slots, Q, A, nL0⟩ := x
  obtain ⟨rfl, rfl, rfl, hx, hb, hml, hown, hts, hK, hA, hlk, hnw, hcl, hsl⟩ := h
  intro H locs ls hP hD hS hl
  obtain ⟨l, q1, q2, q3⟩ := vL_enum hl
  obtain ⟨kk, hkk⟩ := List.getElem?_of_mem (q3 2 _ rfl)
  exact lv_iinc hx hb hd q1 hkk rfl hn rfl (fun ls2 hl2 => k _ _ _ hP hD hS (by have q4 := vL_store q2 q3 rfl hl2; exact q4))
theorem v_iincN2 (h : Ok x g cc own rm nL) {l0 l1 : Option Value} {lt : List (Option Value)} {v : Nat} (hn : 2 < nL) (hd : decode cc pc = .ok (.iinc 2 1, 3)) (k : vM x (pc + 3) (l0 :: l1 :: some (.int (nI (v + 1))) :: lt) st ws) : vM x pc (l0 :: l1 :: some (.int (nI v)) :: lt) st ws := by
  refine v_iinc2 h hn hd ?_
  rw [show nI v + Int32.ofInt 1 = nI (v + 1) from nI_1 v]
  exact k
theorem v_idecN2 (h : Ok x g cc own rm nL) {l0 l1 : Option Value} {lt : List (Option Value)} {v : Nat} (hn : 2 < nL) (hd : decode cc pc = .ok (.iinc 2 (-1), 3)) (k : vM x (pc + 3) (l0 :: l1 :: some (.int (nI v)) :: lt) st ws) : vM x pc (l0 :: l1 :: some (.int (nI (v + 1))) :: lt) st ws := by
  refine v_iinc2 h hn hd ?_
  rw [show nI (v + 1) + Int32.ofInt (-1) = nI v from pk_m1 v]
  exact k
theorem v_iload_n3 (h : Ok x g cc own rm nL) {l0 l1 l2 : Option Value} {lt : List (Option Value)} {v : Int32} (hd : decode cc pc = .ok (.iload_n 3, 1)) (k : vM x (pc + 1) (l0 :: l1 :: l2 :: some (.int v) :: lt) (.int v :: st) ws) : vM x pc (l0 :: l1 :: l2 :: some (.int v) :: lt) (st) ws := by
  obtain ⟨g0, p, e, R, s, m, args, below, meth, c, cells, slots, Q, A, nL0⟩ := x
  obtain ⟨rfl, rfl, rfl, hx, hb, hml, hown, hts, hK, hA, hlk, hnw, hcl, hsl⟩ := h
  exact fun H locs ls hP hD hS hl => lv_iload_n hx hb hd rfl (hl.2.2 3 _ rfl).1 (k _ _ _ hP hD hS hl)
theorem v_iload3 (h : Ok x g cc own rm nL) {l0 l1 l2 : Option Value} {lt : List (Option Value)} {v : Int32} (hd : decode cc pc = .ok (.iload 3, 2)) (k : vM x (pc + 2) (l0 :: l1 :: l2 :: some (.int v) :: lt) (.int v :: st) ws) : vM x pc (l0 :: l1 :: l2 :: some (.int v) :: lt) (st) ws := by
  obtain ⟨g0, p, e, R, s, m, args, below, meth, c, cells, slots, Q, A, nL0⟩ := x
  obtain ⟨rfl, rfl, rfl, hx, hb, hml, hown, hts, hK, hA, hlk, hnw, hcl, hsl⟩ := h
  exact fun H locs ls hP hD hS hl => lv_iload hx hb hd (hl.2.2 3 _ rfl).1 (k _ _ _ hP hD hS hl)
theorem v_istore_n3 (h : Ok x g cc own rm nL) {l0 l1 l2 : Option Value} {lt : List (Option Value)} {lo : Option Value} {v : Int32} (hn : 3 < nL) (hd : decode cc pc = .ok (.istore_n 3, 1)) (k : vM x (pc + 1) (l0 :: l1 :: l2 :: some (.int v) :: lt) st ws) : vM x pc (l0 :: l1 :: l2 :: lo :: lt) (.int v :: st) ws := by
  obtain ⟨g0, p, e, R, s, m, args, below, meth, c, cells, slots, Q, A, nL0⟩ := x
  obtain ⟨rfl, rfl, rfl, hx, hb, hml, hown, hts, hK, hA, hlk, hnw, hcl, hsl⟩ := h
  intro H locs ls hP hD hS hl
  obtain ⟨l, q1, q2, q3⟩ := vL_enum hl
  exact lv_istore_n hx hb hd rfl q1 hn rfl (fun ls2 hl2 => k _ _ _ hP hD hS (by have q4 := vL_store q2 q3 rfl hl2; exact q4))
theorem v_istore3 (h : Ok x g cc own rm nL) {l0 l1 l2 : Option Value} {lt : List (Option Value)} {lo : Option Value} {v : Int32} (hn : 3 < nL) (hd : decode cc pc = .ok (.istore 3, 2)) (k : vM x (pc + 2) (l0 :: l1 :: l2 :: some (.int v) :: lt) st ws) : vM x pc (l0 :: l1 :: l2 :: lo :: lt) (.int v :: st) ws := by
  obtain ⟨g0, p, e, R, s, m, args, below, meth, c, cells, slots, Q, A, nL0⟩ := x
  obtain ⟨rfl, rfl, rfl, hx, hb, hml, hown, hts, hK, hA, hlk, hnw, hcl, hsl⟩ := h
  intro H locs ls hP hD hS hl
  obtain ⟨l, q1, q2, q3⟩ := vL_enum hl
  exact lv_istore hx hb hd q1 hn rfl (fun ls2 hl2 => k _ _ _ hP hD hS (by have q4 := vL_store q2 q3 rfl hl2; exact q4))
theorem v_aload_n3 (h : Ok x g cc own rm nL) {l0 l1 l2 : Option Value} {lt : List (Option Value)} {v : Nat} (hd : decode cc pc = .ok (.aload_n 3, 1)) (k : vM x (pc + 1) (l0 :: l1 :: l2 :: some (.ref v) :: lt) (.ref v :: st) ws) : vM x pc (l0 :: l1 :: l2 :: some (.ref v) :: lt) (st) ws := by
  obtain ⟨g0, p, e, R, s, m, args, below, meth, c, cells, slots, Q, A, nL0⟩ := x
  obtain ⟨rfl, rfl, rfl, hx, hb, hml, hown, hts, hK, hA, hlk, hnw, hcl, hsl⟩ := h
  exact fun H locs ls hP hD hS hl => lv_aload_n hx hb hd rfl (hl.2.2 3 _ rfl).1 (k _ _ _ hP hD hS hl)
theorem v_aload3 (h : Ok x g cc own rm nL) {l0 l1 l2 : Option Value} {lt : List (Option Value)} {v : Nat} (hd : decode cc pc = .ok (.aload 3, 2)) (k : vM x (pc + 2) (l0 :: l1 :: l2 :: some (.ref v) :: lt) (.ref v :: st) ws) : vM x pc (l0 :: l1 :: l2 :: some (.ref v) :: lt) (st) ws := by
  obtain ⟨g0, p, e, R, s, m, args, below, meth, c, cells, slots, Q, A, nL0⟩ := x
  obtain ⟨rfl, rfl, rfl, hx, hb, hml, hown, hts, hK, hA, hlk, hnw, hcl, hsl⟩ := h
  exact fun H locs ls hP hD hS hl => lv_aload hx hb hd (hl.2.2 3 _ rfl).1 (k _ _ _ hP hD hS hl)
theorem v_astore_n3 (h : Ok x g cc own rm nL) {l0 l1 l2 : Option Value} {lt : List (Option Value)} {lo : Option Value} {v : Nat} (hn : 3 < nL) (hd : decode cc pc = .ok (.astore_n 3, 1)) (k : vM x (pc + 1) (l0 :: l1 :: l2 :: some (.ref v) :: lt) st ws) : vM x pc (l0 :: l1 :: l2 :: lo :: lt) (.ref v :: st) ws := by
  obtain ⟨g0, p, e, R, s, m, args, below, meth, c, cells, slots, Q, A, nL0⟩ := x
  obtain ⟨rfl, rfl, rfl, hx, hb, hml, hown, hts, hK, hA, hlk, hnw, hcl, hsl⟩ := h
  intro H locs ls hP hD hS hl
  obtain ⟨l, q1, q2, q3⟩ := vL_enum hl
  exact lv_astore_n hx hb hd rfl q1 hn rfl (fun ls2 hl2 => k _ _ _ hP hD hS (by have q4 := vL_store q2 q3 rfl hl2; exact q4))
theorem v_astore3 (h : Ok x g cc own rm nL) {l0 l1 l2 : Option Value} {lt : List (Option Value)} {lo : Option Value} {v : Nat} (hn : 3 < nL) (hd : decode cc pc = .ok (.astore 3, 2)) (k : vM x (pc + 2) (l0 :: l1 :: l2 :: some (.ref v) :: lt) st ws) : vM x pc (l0 :: l1 :: l2 :: lo :: lt) (.ref v :: st) ws := by
  obtain ⟨g0, p, e, R, s, m, args, below, meth, c, cells, slots, Q, A, nL0⟩ := x
  obtain ⟨rfl, rfl, rfl, hx, hb, hml, hown, hts, hK, hA, hlk, hnw, hcl, hsl⟩ := h
  intro H locs ls hP hD hS hl
  obtain ⟨l, q1, q2, q3⟩ := vL_enum hl
  exact lv_astore hx hb hd q1 hn rfl (fun ls2 hl2 => k _ _ _ hP hD hS (by have q4 := vL_store q2 q3 rfl hl2; exact q4))
theorem v_iinc3 (h : Ok x g cc own rm nL) {l0 l1 l2 : Option Value} {lt : List (Option Value)} {v : Int32} {d : Int} (hn : 3 < nL) (hd : decode cc pc = .ok (.iinc 3 d, 3)) (k : vM x (pc + 3) (l0 :: l1 :: l2 :: some (.int (v + Int32.ofInt d)) :: lt) st ws) : vM x pc (l0 :: l1 :: l2 :: some (.int v) :: lt) st ws := by
  obtain ⟨g0, p, e, R, s, m, args, below, meth, c, cells, slots, Q, A, nL0⟩ := x
  obtain ⟨rfl, rfl, rfl, hx, hb, hml, hown, hts, hK, hA, hlk, hnw, hcl, hsl⟩ := h
  intro H locs ls hP hD hS hl
  obtain ⟨l, q1, q2, q3⟩ := vL_enum hl
  obtain ⟨kk, hkk⟩ := List.getElem?_of_mem (q3 3 _ rfl)
  exact lv_iinc hx hb hd q1 hkk rfl hn rfl (fun ls2 hl2 => k _ _ _ hP hD hS (by have q4 := vL_store q2 q3 rfl hl2; exact q4))
theorem v_iincN3 (h : Ok x g cc own rm nL) {l0 l1 l2 : Option Value} {lt : List (Option Value)} {v : Nat} (hn : 3 < nL) (hd : decode cc pc = .ok (.iinc 3 1, 3)) (k : vM x (pc + 3) (l0 :: l1 :: l2 :: some (.int (nI (v + 1))) :: lt) st ws) : vM x pc (l0 :: l1 :: l2 :: some (.int (nI v)) :: lt) st ws := by
  refine v_iinc3 h hn hd ?_
  rw [show nI v + Int32.ofInt 1 = nI (v + 1) from nI_1 v]
  exact k
theorem v_idecN3 (h : Ok x g cc own rm nL) {l0 l1 l2 : Option Value} {lt : List (Option Value)} {v : Nat} (hn : 3 < nL) (hd : decode cc pc = .ok (.iinc 3 (-1), 3)) (k : vM x (pc + 3) (l0 :: l1 :: l2 :: some (.int (nI v)) :: lt) st ws) : vM x pc (l0 :: l1 :: l2 :: some (.int (nI (v + 1))) :: lt) st ws := by
  refine v_iinc3 h hn hd ?_
  rw [show nI (v + 1) + Int32.ofInt (-1) = nI v from pk_m1 v]
  exact k
theorem v_iload4 (h : Ok x g cc own rm nL) {l0 l1 l2 l3 : Option Value} {lt : List (Option Value)} {v : Int32} (hd : decode cc pc = .ok (.iload 4, 2)) (k : vM x (pc + 2) (l0 :: l1 :: l2 :: l3 :: some (.int v) :: lt) (.int v :: st) ws) : vM x pc (l0 :: l1 :: l2 :: l3 :: some (.int v) :: lt) (st) ws := by
  obtain ⟨g0, p, e, R, s, m, args, below, meth, c, cells, slots, Q, A, nL0⟩ := x
  obtain ⟨rfl, rfl, rfl, hx, hb, hml, hown, hts, hK, hA, hlk, hnw, hcl, hsl⟩ := h
  exact fun H locs ls hP hD hS hl => lv_iload hx hb hd (hl.2.2 4 _ rfl).1 (k _ _ _ hP hD hS hl)
theorem v_istore4 (h : Ok x g cc own rm nL) {l0 l1 l2 l3 : Option Value} {lt : List (Option Value)} {lo : Option Value} {v : Int32} (hn : 4 < nL) (hd : decode cc pc = .ok (.istore 4, 2)) (k : vM x (pc + 2) (l0 :: l1 :: l2 :: l3 :: some (.int v) :: lt) st ws) : vM x pc (l0 :: l1 :: l2 :: l3 :: lo :: lt) (.int v :: st) ws := by
  obtain ⟨g0, p, e, R, s, m, args, below, meth, c, cells, slots, Q, A, nL0⟩ := x
  obtain ⟨rfl, rfl, rfl, hx, hb, hml, hown, hts, hK, hA, hlk, hnw, hcl, hsl⟩ := h
  intro H locs ls hP hD hS hl
  obtain ⟨l, q1, q2, q3⟩ := vL_enum hl
  exact lv_istore hx hb hd q1 hn rfl (fun ls2 hl2 => k _ _ _ hP hD hS (by have q4 := vL_store q2 q3 rfl hl2; exact q4))
theorem v_aload4 (h : Ok x g cc own rm nL) {l0 l1 l2 l3 : Option Value} {lt : List (Option Value)} {v : Nat} (hd : decode cc pc = .ok (.aload 4, 2)) (k : vM x (pc + 2) (l0 :: l1 :: l2 :: l3 :: some (.ref v) :: lt) (.ref v :: st) ws) : vM x pc (l0 :: l1 :: l2 :: l3 :: some (.ref v) :: lt) (st) ws := by
  obtain ⟨g0, p, e, R, s, m, args, below, meth, c, cells, slots, Q, A, nL0⟩ := x
  obtain ⟨rfl, rfl, rfl, hx, hb, hml, hown, hts, hK, hA, hlk, hnw, hcl, hsl⟩ := h
  exact fun H locs ls hP hD hS hl => lv_aload hx hb hd (hl.2.2 4 _ rfl).1 (k _ _ _ hP hD hS hl)
theorem v_astore4 (h : Ok x g cc own rm nL) {l0 l1 l2 l3 : Option Value} {lt : List (Option Value)} {lo : Option Value} {v : Nat} (hn : 4 < nL) (hd : decode cc pc = .ok (.astore 4, 2)) (k : vM x (pc + 2) (l0 :: l1 :: l2 :: l3 :: some (.ref v) :: lt) st ws) : vM x pc (l0 :: l1 :: l2 :: l3 :: lo :: lt) (.ref v :: st) ws := by
  obtain ⟨g0, p, e, R, s, m, args, below, meth, c, cells, slots, Q, A, nL0⟩ := x
  obtain ⟨rfl, rfl, rfl, hx, hb, hml, hown, hts, hK, hA, hlk, hnw, hcl, hsl⟩ := h
  intro H locs ls hP hD hS hl
  obtain ⟨l, q1, q2, q3⟩ := vL_enum hl
  exact lv_astore hx hb hd q1 hn rfl (fun ls2 hl2 => k _ _ _ hP hD hS (by have q4 := vL_store q2 q3 rfl hl2; exact q4))
theorem v_iinc4 (h : Ok x g cc own rm nL) {l0 l1 l2 l3 : Option Value} {lt : List (Option Value)} {v : Int32} {d : Int} (hn : 4 < nL) (hd : decode cc pc = .ok (.iinc 4 d, 3)) (k : vM x (pc + 3) (l0 :: l1 :: l2 :: l3 :: some (.int (v + Int32.ofInt d)) :: lt) st ws) : vM x pc (l0 :: l1 :: l2 :: l3 :: some (.int v) :: lt) st ws := by
  obtain ⟨g0, p, e, R, s, m, args, below, meth, c, cells, slots, Q, A, nL0⟩ := x
  obtain ⟨rfl, rfl, rfl, hx, hb, hml, hown, hts, hK, hA, hlk, hnw, hcl, hsl⟩ := h
  intro H locs ls hP hD hS hl
  obtain ⟨l, q1, q2, q3⟩ := vL_enum hl
  obtain ⟨kk, hkk⟩ := List.getElem?_of_mem (q3 4 _ rfl)
  exact lv_iinc hx hb hd q1 hkk rfl hn rfl (fun ls2 hl2 => k _ _ _ hP hD hS (by have q4 := vL_store q2 q3 rfl hl2; exact q4))
theorem v_iincN4 (h : Ok x g cc own rm nL) {l0 l1 l2 l3 : Option Value} {lt : List (Option Value)} {v : Nat} (hn : 4 < nL) (hd : decode cc pc = .ok (.iinc 4 1, 3)) (k : vM x (pc + 3) (l0 :: l1 :: l2 :: l3 :: some (.int (nI (v + 1))) :: lt) st ws) : vM x pc (l0 :: l1 :: l2 :: l3 :: some (.int (nI v)) :: lt) st ws := by
  refine v_iinc4 h hn hd ?_
  rw [show nI v + Int32.ofInt 1 = nI (v + 1) from nI_1 v]
  exact k
theorem v_idecN4 (h : Ok x g cc own rm nL) {l0 l1 l2 l3 : Option Value} {lt : List (Option Value)} {v : Nat} (hn : 4 < nL) (hd : decode cc pc = .ok (.iinc 4 (-1), 3)) (k : vM x (pc + 3) (l0 :: l1 :: l2 :: l3 :: some (.int (nI v)) :: lt) st ws) : vM x pc (l0 :: l1 :: l2 :: l3 :: some (.int (nI (v + 1))) :: lt) st ws := by
  refine v_iinc4 h hn hd ?_
  rw [show nI (v + 1) + Int32.ofInt (-1) = nI v from pk_m1 v]
  exact k
theorem v_iload5 (h : Ok x g cc own rm nL) {l0 l1 l2 l3 l4 : Option Value} {lt : List (Option Value)} {v : Int32} (hd : decode cc pc = .ok (.iload 5, 2)) (k : vM x (pc + 2) (l0 :: l1 :: l2 :: l3 :: l4 :: some (.int v) :: lt) (.int v :: st) ws) : vM x pc (l0 :: l1 :: l2 :: l3 :: l4 :: some (.int v) :: lt) (st) ws := by
  obtain ⟨g0, p, e, R, s, m, args, below, meth, c, cells, slots, Q, A, nL0⟩ := x
  obtain ⟨rfl, rfl, rfl, hx, hb, hml, hown, hts, hK, hA, hlk, hnw, hcl, hsl⟩ := h
  exact fun H locs ls hP hD hS hl => lv_iload hx hb hd (hl.2.2 5 _ rfl).1 (k _ _ _ hP hD hS hl)
theorem v_istore5 (h : Ok x g cc own rm nL) {l0 l1 l2 l3 l4 : Option Value} {lt : List (Option Value)} {lo : Option Value} {v : Int32} (hn : 5 < nL) (hd : decode cc pc = .ok (.istore 5, 2)) (k : vM x (pc + 2) (l0 :: l1 :: l2 :: l3 :: l4 :: some (.int v) :: lt) st ws) : vM x pc (l0 :: l1 :: l2 :: l3 :: l4 :: lo :: lt) (.int v :: st) ws := by
  obtain ⟨g0, p, e, R, s, m, args, below, meth, c, cells, slots, Q, A, nL0⟩ := x
  obtain ⟨rfl, rfl, rfl, hx, hb, hml, hown, hts, hK, hA, hlk, hnw, hcl, hsl⟩ := h
  intro H locs ls hP hD hS hl
  obtain ⟨l, q1, q2, q3⟩ := vL_enum hl
  exact lv_istore hx hb hd q1 hn rfl (fun ls2 hl2 => k _ _ _ hP hD hS (by have q4 := vL_store q2 q3 rfl hl2; exact q4))
theorem v_aload5 (h : Ok x g cc own rm nL) {l0 l1 l2 l3 l4 : Option Value} {lt : List (Option Value)} {v : Nat} (hd : decode cc pc = .ok (.aload 5, 2)) (k : vM x (pc + 2) (l0 :: l1 :: l2 :: l3 :: l4 :: some (.ref v) :: lt) (.ref v :: st) ws) : vM x pc (l0 :: l1 :: l2 :: l3 :: l4 :: some (.ref v) :: lt) (st) ws := by
  obtain ⟨g0, p, e, R, s, m, args, below, meth, c, cells, slots, Q, A, nL0⟩ := x
  obtain ⟨rfl, rfl, rfl, hx, hb, hml, hown, hts, hK, hA, hlk, hnw, hcl, hsl⟩ := h
  exact fun H locs ls hP hD hS hl => lv_aload hx hb hd (hl.2.2 5 _ rfl).1 (k _ _ _ hP hD hS hl)
theorem v_astore5 (h : Ok x g cc own rm nL) {l0 l1 l2 l3 l4 : Option Value} {lt : List (Option Value)} {lo : Option Value} {v : Nat} (hn : 5 < nL) (hd : decode cc pc = .ok (.astore 5, 2)) (k : vM x (pc + 2) (l0 :: l1 :: l2 :: l3 :: l4 :: some (.ref v) :: lt) st ws) : vM x pc (l0 :: l1 :: l2 :: l3 :: l4 :: lo :: lt) (.ref v :: st) ws := by
  obtain ⟨g0, p, e, R, s, m, args, below, meth, c, cells, slots, Q, A, nL0⟩ := x
  obtain ⟨rfl, rfl, rfl, hx, hb, hml, hown, hts, hK, hA, hlk, hnw, hcl, hsl⟩ := h
  intro H locs ls hP hD hS hl
  obtain ⟨l, q1, q2, q3⟩ := vL_enum hl
  exact lv_astore hx hb hd q1 hn rfl (fun ls2 hl2 => k _ _ _ hP hD hS (by have q4 := vL_store q2 q3 rfl hl2; exact q4))
theorem v_iinc5 (h : Ok x g cc own rm nL) {l0 l1 l2 l3 l4 : Option Value} {lt : List (Option Value)} {v : Int32} {d : Int} (hn : 5 < nL) (hd : decode cc pc = .ok (.iinc 5 d, 3)) (k : vM x (pc + 3) (l0 :: l1 :: l2 :: l3 :: l4 :: some (.int (v + Int32.ofInt d)) :: lt) st ws) : vM x pc (l0 :: l1 :: l2 :: l3 :: l4 :: some (.int v) :: lt) st ws := by
  obtain ⟨g0, p, e, R, s, m, args, below, meth, c, cells, slots, Q, A, nL0⟩ := x
  obtain ⟨rfl, rfl, rfl, hx, hb, hml, hown, hts, hK, hA, hlk, hnw, hcl, hsl⟩ := h
  intro H locs ls hP hD hS hl
  obtain ⟨l, q1, q2, q3⟩ := vL_enum hl
  obtain ⟨kk, hkk⟩ := List.getElem?_of_mem (q3 5 _ rfl)
  exact lv_iinc hx hb hd q1 hkk rfl hn rfl (fun ls2 hl2 => k _ _ _ hP hD hS (by have q4 := vL_store q2 q3 rfl hl2; exact q4))
theorem v_iincN5 (h : Ok x g cc own rm nL) {l0 l1 l2 l3 l4 : Option Value} {lt : List (Option Value)} {v : Nat} (hn : 5 < nL) (hd : decode cc pc = .ok (.iinc 5 1, 3)) (k : vM x (pc + 3) (l0 :: l1 :: l2 :: l3 :: l4 :: some (.int (nI (v + 1))) :: lt) st ws) : vM x pc (l0 :: l1 :: l2 :: l3 :: l4 :: some (.int (nI v)) :: lt) st ws := by
  refine v_iinc5 h hn hd ?_
  rw [show nI v + Int32.ofInt 1 = nI (v + 1) from nI_1 v]
  exact k
theorem v_idecN5 (h : Ok x g cc own rm nL) {l0 l1 l2 l3 l4 : Option Value} {lt : List (Option Value)} {v : Nat} (hn : 5 < nL) (hd : decode cc pc = .ok (.iinc 5 (-1), 3)) (k : vM x (pc + 3) (l0 :: l1 :: l2 :: l3 :: l4 :: some (.int (nI v)) :: lt) st ws) : vM x pc (l0 :: l1 :: l2 :: l3 :: l4 :: some (.int (nI (v + 1))) :: lt) st ws := by
  refine v_iinc5 h hn hd ?_
  rw [show nI (v + 1) + Int32.ofInt (-1) = nI v from pk_m1 v]
  exact k
theorem v_iload6 (h : Ok x g cc own rm nL) {l0 l1 l2 l3 l4 l5 : Option Value} {lt : List (Option Value)} {v : Int32} (hd : decode cc pc = .ok (.iload 6, 2)) (k : vM x (pc + 2) (l0 :: l1 :: l2 :: l3 :: l4 :: l5 :: some (.int v) :: lt) (.int v :: st) ws) : vM x pc (l0 :: l1 :: l2 :: l3 :: l4 :: l5 :: some (.int v) :: lt) (st) ws := by
  obtain ⟨g0, p, e, R, s, m, args, below, meth, c, cells, slots, Q, A, nL0⟩ := x
  obtain ⟨rfl, rfl, rfl, hx, hb, hml, hown, hts, hK, hA, hlk, hnw, hcl, hsl⟩ := h
  exact fun H locs ls hP hD hS hl => lv_iload hx hb hd (hl.2.2 6 _ rfl).1 (k _ _ _ hP hD hS hl)
theorem v_istore6 (h : Ok x g cc own rm nL) {l0 l1 l2 l3 l4 l5 : Option Value} {lt : List (Option Value)} {lo : Option Value} {v : Int32} (hn : 6 < nL) (hd : decode cc pc = .ok (.istore 6, 2)) (k : vM x (pc + 2) (l0 :: l1 :: l2 :: l3 :: l4 :: l5 :: some (.int v) :: lt) st ws) : vM x pc (l0 :: l1 :: l2 :: l3 :: l4 :: l5 :: lo :: lt) (.int v :: st) ws := by
  obtain ⟨g0, p, e, R, s, m, args, below, meth, c, cells, slots, Q, A, nL0⟩ := x
  obtain ⟨rfl, rfl, rfl, hx, hb, hml, hown, hts, hK, hA, hlk, hnw, hcl, hsl⟩ := h
  intro H locs ls hP hD hS hl
  obtain ⟨l, q1, q2, q3⟩ := vL_enum hl
  exact lv_istore hx hb hd q1 hn rfl (fun ls2 hl2 => k _ _ _ hP hD hS (by have q4 := vL_store q2 q3 rfl hl2; exact q4))
theorem v_aload6 (h : Ok x g cc own rm nL) {l0 l1 l2 l3 l4 l5 : Option Value} {lt : List (Option Value)} {v : Nat} (hd : decode cc pc = .ok (.aload 6, 2)) (k : vM x (pc + 2) (l0 :: l1 :: l2 :: l3 :: l4 :: l5 :: some (.ref v) :: lt) (.ref v :: st) ws) : vM x pc (l0 :: l1 :: l2 :: l3 :: l4 :: l5 :: some (.ref v) :: lt) (st) ws := by
  obtain ⟨g0, p, e, R, s, m, args, below, meth, c, cells, slots, Q, A, nL0⟩ := x
  obtain ⟨rfl, rfl, rfl, hx, hb, hml, hown, hts, hK, hA, hlk, hnw, hcl, hsl⟩ := h
  exact fun H locs ls hP hD hS hl => lv_aload hx hb hd (hl.2.2 6 _ rfl).1 (k _ _ _ hP hD hS hl)
theorem v_astore6 (h : Ok x g cc own rm nL) {l0 l1 l2 l3 l4 l5 : Option Value} {lt : List (Option Value)} {lo : Option Value} {v : Nat} (hn : 6 < nL) (hd : decode cc pc = .ok (.astore 6, 2)) (k : vM x (pc + 2) (l0 :: l1 :: l2 :: l3 :: l4 :: l5 :: some (.ref v) :: lt) st ws) : vM x pc (l0 :: l1 :: l2 :: l3 :: l4 :: l5 :: lo :: lt) (.ref v :: st) ws := by
  obtain ⟨g0, p, e, R, s, m, args, below, meth, c, cells, slots, Q, A, nL0⟩ := x
  obtain ⟨rfl, rfl, rfl, hx, hb, hml, hown, hts, hK, hA, hlk, hnw, hcl, hsl⟩ := h
  intro H locs ls hP hD hS hl
  obtain ⟨l, q1, q2, q3⟩ := vL_enum hl
  exact lv_astore hx hb hd q1 hn rfl (fun ls2 hl2 => k _ _ _ hP hD hS (by have q4 := vL_store q2 q3 rfl hl2; exact q4))
theorem v_iinc6 (h : Ok x g cc own rm nL) {l0 l1 l2 l3 l4 l5 : Option Value} {lt : List (Option Value)} {v : Int32} {d : Int} (hn : 6 < nL) (hd : decode cc pc = .ok (.iinc 6 d, 3)) (k : vM x (pc + 3) (l0 :: l1 :: l2 :: l3 :: l4 :: l5 :: some (.int (v + Int32.ofInt d)) :: lt) st ws) : vM x pc (l0 :: l1 :: l2 :: l3 :: l4 :: l5 :: some (.int v) :: lt) st ws := by
  obtain ⟨g0, p, e, R, s, m, args, below, meth, c, cells, slots, Q, A, nL0⟩ := x
  obtain ⟨rfl, rfl, rfl, hx, hb, hml, hown, hts, hK, hA, hlk, hnw, hcl, hsl⟩ := h
  intro H locs ls hP hD hS hl
  obtain ⟨l, q1, q2, q3⟩ := vL_enum hl
  obtain ⟨kk, hkk⟩ := List.getElem?_of_mem (q3 6 _ rfl)
  exact lv_iinc hx hb hd q1 hkk rfl hn rfl (fun ls2 hl2 => k _ _ _ hP hD hS (by have q4 := vL_store q2 q3 rfl hl2; exact q4))
theorem v_iincN6 (h : Ok x g cc own rm nL) {l0 l1 l2 l3 l4 l5 : Option Value} {lt : List (Option Value)} {v : Nat} (hn : 6 < nL) (hd : decode cc pc = .ok (.iinc 6 1, 3)) (k : vM x (pc + 3) (l0 :: l1 :: l2 :: l3 :: l4 :: l5 :: some (.int (nI (v + 1))) :: lt) st ws) : vM x pc (l0 :: l1 :: l2 :: l3 :: l4 :: l5 :: some (.int (nI v)) :: lt) st ws := by
  refine v_iinc6 h hn hd ?_
  rw [show nI v + Int32.ofInt 1 = nI (v + 1) from nI_1 v]
  exact k
theorem v_idecN6 (h : Ok x g cc own rm nL) {l0 l1 l2 l3 l4 l5 : Option Value} {lt : List (Option Value)} {v : Nat} (hn : 6 < nL) (hd : decode cc pc = .ok (.iinc 6 (-1), 3)) (k : vM x (pc + 3) (l0 :: l1 :: l2 :: l3 :: l4 :: l5 :: some (.int (nI v)) :: lt) st ws) : vM x pc (l0 :: l1 :: l2 :: l3 :: l4 :: l5 :: some (.int (nI (v + 1))) :: lt) st ws := by
  refine v_iinc6 h hn hd ?_
  rw [show nI (v + 1) + Int32.ofInt (-1) = nI v from pk_m1 v]
  exact k
theorem v_iload7 (h : Ok x g cc own rm nL) {l0 l1 l2 l3 l4 l5 l6 : Option Value} {lt : List (Option Value)} {v : Int32} (hd : decode cc pc = .ok (.iload 7, 2)) (k : vM x (pc + 2) (l0 :: l1 :: l2 :: l3 :: l4 :: l5 :: l6 :: some (.int v) :: lt) (.int v :: st) ws) : vM x pc (l0 :: l1 :: l2 :: l3 :: l4 :: l5 :: l6 :: some (.int v) :: lt) (st) ws := by
  obtain ⟨g0, p, e, R, s, m, args, below, meth, c, cells, slots, Q, A, nL0⟩ := x
  obtain ⟨rfl, rfl, rfl, hx, hb, hml, hown, hts, hK, hA, hlk, hnw, hcl, hsl⟩ := h
  exact fun H locs ls hP hD hS hl => lv_iload hx hb hd (hl.2.2 7 _ rfl).1 (k _ _ _ hP hD hS hl)
theorem v_istore7 (h : Ok x g cc own rm nL) {l0 l1 l2 l3 l4 l5 l6 : Option Value} {lt : List (Option Value)} {lo : Option Value} {v : Int32} (hn : 7 < nL) (hd : decode cc pc = .ok (.istore 7, 2)) (k : vM x (pc + 2) (l0 :: l1 :: l2 :: l3 :: l4 :: l5 :: l6 :: some (.int v) :: lt) st ws) : vM x pc (l0 :: l1 :: l2 :: l3 :: l4 :: l5 :: l6 :: lo :: lt) (.int v :: st) ws := by
  obtain ⟨g0, p, e, R, s, m, args, below, meth, c, cells, slots, Q, A, nL0⟩ := x
  obtain ⟨rfl, rfl, rfl, hx, hb, hml, hown, hts, hK, hA, hlk, hnw, hcl, hsl⟩ := h
  intro H locs ls hP hD hS hl
  obtain ⟨l, q1, q2, q3⟩ := vL_enum hl
  exact lv_istore hx hb hd q1 hn rfl (fun ls2 hl2 => k _ _ _ hP hD hS (by have q4 := vL_store q2 q3 rfl hl2; exact q4))
theorem v_aload7 (h : Ok x g cc own rm nL) {l0 l1 l2 l3 l4 l5 l6 : Option Value} {lt : List (Option Value)} {v : Nat} (hd : decode cc pc = .ok (.aload 7, 2)) (k : vM x (pc + 2) (l0 :: l1 :: l2 :: l3 :: l4 :: l5 :: l6 :: some (.ref v) :: lt) (.ref v :: st) ws) : vM x pc (l0 :: l1 :: l2 :: l3 :: l4 :: l5 :: l6 :: some (.ref v) :: lt) (st) ws := by
  obtain ⟨g0, p, e, R, s, m, args, below, meth, c, cells, slots, Q, A, nL0⟩ := x
  obtain ⟨rfl, rfl, rfl, hx, hb, hml, hown, hts, hK, hA, hlk, hnw, hcl, hsl⟩ := h
  exact fun H locs ls hP hD hS hl => lv_aload hx hb hd (hl.2.2 7 _ rfl).1 (k _ _ _ hP hD hS hl)
theorem v_astore7 (h : Ok x g cc own rm nL) {l0 l1 l2 l3 l4 l5 l6 : Option Value} {lt : List (Option Value)} {lo : Option Value} {v : Nat} (hn : 7 < nL) (hd : decode cc pc = .ok (.astore 7, 2)) (k : vM x (pc + 2) (l0 :: l1 :: l2 :: l3 :: l4 :: l5 :: l6 :: some (.ref v) :: lt) st ws) : vM x pc (l0 :: l1 :: l2 :: l3 :: l4 :: l5 :: l6 :: lo :: lt) (.ref v :: st) ws := by
  obtain ⟨g0, p, e, R, s, m, args, below, meth, c, cells, slots, Q, A, nL0⟩ := x
  obtain ⟨rfl, rfl, rfl, hx, hb, hml, hown, hts, hK, hA, hlk, hnw, hcl, hsl⟩ := h
  intro H locs ls hP hD hS hl
  obtain ⟨l, q1, q2, q3⟩ := vL_enum hl
  exact lv_astore hx hb hd q1 hn rfl (fun ls2 hl2 => k _ _ _ hP hD hS (by have q4 := vL_store q2 q3 rfl hl2; exact q4))
theorem v_iinc7 (h : Ok x g cc own rm nL) {l0 l1 l2 l3 l4 l5 l6 : Option Value} {lt : List (Option Value)} {v : Int32} {d : Int} (hn : 7 < nL) (hd : decode cc pc = .ok (.iinc 7 d, 3)) (k : vM x (pc + 3) (l0 :: l1 :: l2 :: l3 :: l4 :: l5 :: l6 :: some (.int (v + Int32.ofInt d)) :: lt) st ws) : vM x pc (l0 :: l1 :: l2 :: l3 :: l4 :: l5 :: l6 :: some (.int v) :: lt) st ws := by
  obtain ⟨g0, p, e, R, s, m, args, below, meth, c, cells, slots, Q, A, nL0⟩ := x
  obtain ⟨rfl, rfl, rfl, hx, hb, hml, hown, hts, hK, hA, hlk, hnw, hcl, hsl⟩ := h
  intro H locs ls hP hD hS hl
  obtain ⟨l, q1, q2, q3⟩ := vL_enum hl
  obtain ⟨kk, hkk⟩ := List.getElem?_of_mem (q3 7 _ rfl)
  exact lv_iinc hx hb hd q1 hkk rfl hn rfl (fun ls2 hl2 => k _ _ _ hP hD hS (by have q4 := vL_store q2 q3 rfl hl2; exact q4))
theorem v_iincN7 (h : Ok x g cc own rm nL) {l0 l1 l2 l3 l4 l5 l6 : Option Value} {lt : List (Option Value)} {v : Nat} (hn : 7 < nL) (hd : decode cc pc = .ok (.iinc 7 1, 3)) (k : vM x (pc + 3) (l0 :: l1 :: l2 :: l3 :: l4 :: l5 :: l6 :: some (.int (nI (v + 1))) :: lt) st ws) : vM x pc (l0 :: l1 :: l2 :: l3 :: l4 :: l5 :: l6 :: some (.int (nI v)) :: lt) st ws := by
  refine v_iinc7 h hn hd ?_
  rw [show nI v + Int32.ofInt 1 = nI (v + 1) from nI_1 v]
  exact k
theorem v_idecN7 (h : Ok x g cc own rm nL) {l0 l1 l2 l3 l4 l5 l6 : Option Value} {lt : List (Option Value)} {v : Nat} (hn : 7 < nL) (hd : decode cc pc = .ok (.iinc 7 (-1), 3)) (k : vM x (pc + 3) (l0 :: l1 :: l2 :: l3 :: l4 :: l5 :: l6 :: some (.int (nI v)) :: lt) st ws) : vM x pc (l0 :: l1 :: l2 :: l3 :: l4 :: l5 :: l6 :: some (.int (nI (v + 1))) :: lt) st ws := by
  refine v_iinc7 h hn hd ?_
  rw [show nI (v + 1) + Int32.ofInt (-1) = nI v from pk_m1 v]
  exact k
theorem v_iload8 (h : Ok x g cc own rm nL) {l0 l1 l2 l3 l4 l5 l6 l7 : Option Value} {lt : List (Option Value)} {v : Int32} (hd : decode cc pc = .ok (.iload 8, 2)) (k : vM x (pc + 2) (l0 :: l1 :: l2 :: l3 :: l4 :: l5 :: l6 :: l7 :: some (.int v) :: lt) (.int v :: st) ws) : vM x pc (l0 :: l1 :: l2 :: l3 :: l4 :: l5 :: l6 :: l7 :: some (.int v) :: lt) (st) ws := by
  obtain ⟨g0, p, e, R, s, m, args, below, meth, c, cells, slots, Q, A, nL0⟩ := x
  obtain ⟨rfl, rfl, rfl, hx, hb, hml, hown, hts, hK, hA, hlk, hnw, hcl, hsl⟩ := h
  exact fun H locs ls hP hD hS hl => lv_iload hx hb hd (hl.2.2 8 _ rfl).1 (k _ _ _ hP hD hS hl)
theorem v_istore8 (h : Ok x g cc own rm nL) {l0 l1 l2 l3 l4 l5 l6 l7 : Option Value} {lt : List (Option Value)} {lo : Option Value} {v : Int32} (hn : 8 < nL) (hd : decode cc pc = .ok (.istore 8, 2)) (k : vM x (pc + 2) (l0 :: l1 :: l2 :: l3 :: l4 :: l5 :: l6 :: l7 :: some (.int v) :: lt) st ws) : vM x pc (l0 :: l1 :: l2 :: l3 :: l4 :: l5 :: l6 :: l7 :: lo :: lt) (.int v :: st) ws := by
  obtain ⟨g0, p, e, R, s, m, args, below, meth, c, cells, slots, Q, A, nL0⟩ := x
  obtain ⟨rfl, rfl, rfl, hx, hb, hml, hown, hts, hK, hA, hlk, hnw, hcl, hsl⟩ := h
  intro H locs ls hP hD hS hl
  obtain ⟨l, q1, q2, q3⟩ := vL_enum hl
  exact lv_istore hx hb hd q1 hn rfl (fun ls2 hl2 => k _ _ _ hP hD hS (by have q4 := vL_store q2 q3 rfl hl2; exact q4))
theorem v_aload8 (h : Ok x g cc own rm nL) {l0 l1 l2 l3 l4 l5 l6 l7 : Option Value} {lt : List (Option Value)} {v : Nat} (hd : decode cc pc = .ok (.aload 8, 2)) (k : vM x (pc + 2) (l0 :: l1 :: l2 :: l3 :: l4 :: l5 :: l6 :: l7 :: some (.ref v) :: lt) (.ref v :: st) ws) : vM x pc (l0 :: l1 :: l2 :: l3 :: l4 :: l5 :: l6 :: l7 :: some (.ref v) :: lt) (st) ws := by
  obtain ⟨g0, p, e, R, s, m, args, below, meth, c, cells, slots, Q, A, nL0⟩ := x
  obtain ⟨rfl, rfl, rfl, hx, hb, hml, hown, hts, hK, hA, hlk, hnw, hcl, hsl⟩ := h
  exact fun H locs ls hP hD hS hl => lv_aload hx hb hd (hl.2.2 8 _ rfl).1 (k _ _ _ hP hD hS hl)
theorem v_astore8 (h : Ok x g cc own rm nL) {l0 l1 l2 l3 l4 l5 l6 l7 : Option Value} {lt : List (Option Value)} {lo : Option Value} {v : Nat} (hn : 8 < nL) (hd : decode cc pc = .ok (.astore 8, 2)) (k : vM x (pc + 2) (l0 :: l1 :: l2 :: l3 :: l4 :: l5 :: l6 :: l7 :: some (.ref v) :: lt) st ws) : vM x pc (l0 :: l1 :: l2 :: l3 :: l4 :: l5 :: l6 :: l7 :: lo :: lt) (.ref v :: st) ws := by
  obtain ⟨g0, p, e, R, s, m, args, below, meth, c, cells, slots, Q, A, nL0⟩ := x
  obtain ⟨rfl, rfl, rfl, hx, hb, hml, hown, hts, hK, hA, hlk, hnw, hcl, hsl⟩ := h
  intro H locs ls hP hD hS hl
  obtain ⟨l, q1, q2, q3⟩ := vL_enum hl
  exact lv_astore hx hb hd q1 hn rfl (fun ls2 hl2 => k _ _ _ hP hD hS (by have q4 := vL_store q2 q3 rfl hl2; exact q4))
theorem v_iinc8 (h : Ok x g cc own rm nL) {l0 l1 l2 l3 l4 l5 l6 l7 : Option Value} {lt : List (Option Value)} {v : Int32} {d : Int} (hn : 8 < nL) (hd : decode cc pc = .ok (.iinc 8 d, 3)) (k : vM x (pc + 3) (l0 :: l1 :: l2 :: l3 :: l4 :: l5 :: l6 :: l7 :: some (.int (v + Int32.ofInt d)) :: lt) st ws) : vM x pc (l0 :: l1 :: l2 :: l3 :: l4 :: l5 :: l6 :: l7 :: some (.int v) :: lt) st ws := by
  obtain ⟨g0, p, e, R, s, m, args, below, meth, c, cells, slots, Q, A, nL0⟩ := x
  obtain ⟨rfl, rfl, rfl, hx, hb, hml, hown, hts, hK, hA, hlk, hnw, hcl, hsl⟩ := h
  intro H locs ls hP hD hS hl
  obtain ⟨l, q1, q2, q3⟩ := vL_enum hl
  obtain ⟨kk, hkk⟩ := List.getElem?_of_mem (q3 8 _ rfl)
  exact lv_iinc hx hb hd q1 hkk rfl hn rfl (fun ls2 hl2 => k _ _ _ hP hD hS (by have q4 := vL_store q2 q3 rfl hl2; exact q4))
theorem v_iincN8 (h : Ok x g cc own rm nL) {l0 l1 l2 l3 l4 l5 l6 l7 : Option Value} {lt : List (Option Value)} {v : Nat} (hn : 8 < nL) (hd : decode cc pc = .ok (.iinc 8 1, 3)) (k : vM x (pc + 3) (l0 :: l1 :: l2 :: l3 :: l4 :: l5 :: l6 :: l7 :: some (.int (nI (v + 1))) :: lt) st ws) : vM x pc (l0 :: l1 :: l2 :: l3 :: l4 :: l5 :: l6 :: l7 :: some (.int (nI v)) :: lt) st ws := by
  refine v_iinc8 h hn hd ?_
  rw [show nI v + Int32.ofInt 1 = nI (v + 1) from nI_1 v]
  exact k
theorem v_idecN8 (h : Ok x g cc own rm nL) {l0 l1 l2 l3 l4 l5 l6 l7 : Option Value} {lt : List (Option Value)} {v : Nat} (hn : 8 < nL) (hd : decode cc pc = .ok (.iinc 8 (-1), 3)) (k : vM x (pc + 3) (l0 :: l1 :: l2 :: l3 :: l4 :: l5 :: l6 :: l7 :: some (.int (nI v)) :: lt) st ws) : vM x pc (l0 :: l1 :: l2 :: l3 :: l4 :: l5 :: l6 :: l7 :: some (.int (nI (v + 1))) :: lt) st ws := by
  refine v_iinc8 h hn hd ?_
  rw [show nI (v + 1) + Int32.ofInt (-1) = nI v from pk_m1 v]
  exact k
theorem v_iconst (h : Ok x g cc own rm nL) {n : Int} {v : Int32} (hd : decode cc pc = .ok (.iconst n, 1)) (hv : Int32.ofInt n = v) (k : vM x (pc + 1) (lv) (.int v :: st) ws) : vM x pc (lv) (st) ws := by
  obtain ⟨g0, p, e, R, s, m, args, below, meth, c, cells, slots, Q, A, nL0⟩ := x
  obtain ⟨rfl, rfl, rfl, hx, hb, hml, hown, hts, hK, hA, hlk, hnw, hcl, hsl⟩ := h
  exact fun H locs ls hP hD hS hl => lv_iconst hx hb hd hv (k _ _ _ hP hD hS hl)
theorem v_bipush (h : Ok x g cc own rm nL) {n : Int} {v : Int32} (hd : decode cc pc = .ok (.bipush n, 2)) (hv : (Int8.ofInt n).toInt32 = v) (k : vM x (pc + 2) (lv) (.int v :: st) ws) : vM x pc (lv) (st) ws := by
  obtain ⟨g0, p, e, R, s, m, args, below, meth, c, cells, slots, Q, A, nL0⟩ := x
  obtain ⟨rfl, rfl, rfl, hx, hb, hml, hown, hts, hK, hA, hlk, hnw, hcl, hsl⟩ := h
  exact fun H locs ls hP hD hS hl => lv_bipush hx hb hd hv (k _ _ _ hP hD hS hl)
theorem v_sipush (h : Ok x g cc own rm nL) {n : Int} {v : Int32} (hd : decode cc pc = .ok (.sipush n, 3)) (hv : (Int16.ofInt n).toInt32 = v) (k : vM x (pc + 3) (lv) (.int v :: st) ws) : vM x pc (lv) (st) ws := by
  obtain ⟨g0, p, e, R, s, m, args, below, meth, c, cells, slots, Q, A, nL0⟩ := x
  obtain ⟨rfl, rfl, rfl, hx, hb, hml, hown, hts, hK, hA, hlk, hnw, hcl, hsl⟩ := h
  exact fun H locs ls hP hD hS hl => lv_sipush hx hb hd hv (k _ _ _ hP hD hS hl)
theorem v_ldcw (h : Ok x g cc own rm nL) {idx : Nat} {v : Int32} (hc : Cond.constant own idx v ∈ wsL_law) (hd : decode cc pc = .ok (.ldc_w idx, 3)) (k : vM x (pc + 3) (lv) (.int v :: st) ws) : vM x pc (lv) (st) ws := by
  obtain ⟨g0, p, e, R, s, m, args, below, meth, c, cells, slots, Q, A, nL0⟩ := x
  obtain ⟨rfl, rfl, rfl, hx, hb, hml, hown, hts, hK, hA, hlk, hnw, hcl, hsl⟩ := h
  exact fun H locs ls hP hD hS hl => lv_ldcw hx hb hown (hts _ hc) hd (k _ _ _ hP hD hS hl)
theorem v_ldc2 (h : Ok x g cc own rm nL) {idx : Nat} {v : Int64} (hc : Cond.constantLong own idx v ∈ wsL_law) (hd : decode cc pc = .ok (.ldc2_w idx, 3)) (k : vM x (pc + 3) (lv) (.long v :: st) ws) : vM x pc (lv) (st) ws := by
  obtain ⟨g0, p, e, R, s, m, args, below, meth, c, cells, slots, Q, A, nL0⟩ := x
  obtain ⟨rfl, rfl, rfl, hx, hb, hml, hown, hts, hK, hA, hlk, hnw, hcl, hsl⟩ := h
  exact fun H locs ls hP hD hS hl => lv_ldc2 hx hb hown (hts _ hc) hd (k _ _ _ hP hD hS hl)
theorem v_iadd (h : Ok x g cc own rm nL) {a b : Int32} (hd : decode cc pc = .ok (.iadd, 1)) (k : vM x (pc + 1) (lv) (.int (a + b) :: st) ws) : vM x pc (lv) (.int b :: .int a :: st) ws := by
  obtain ⟨g0, p, e, R, s, m, args, below, meth, c, cells, slots, Q, A, nL0⟩ := x
  obtain ⟨rfl, rfl, rfl, hx, hb, hml, hown, hts, hK, hA, hlk, hnw, hcl, hsl⟩ := h
  exact fun H locs ls hP hD hS hl => lv_iadd hx hb hd (k _ _ _ hP hD hS hl)
theorem v_isub (h : Ok x g cc own rm nL) {a b : Int32} (hd : decode cc pc = .ok (.isub, 1)) (k : vM x (pc + 1) (lv) (.int (a - b) :: st) ws) : vM x pc (lv) (.int b :: .int a :: st) ws := by
  obtain ⟨g0, p, e, R, s, m, args, below, meth, c, cells, slots, Q, A, nL0⟩ := x
  obtain ⟨rfl, rfl, rfl, hx, hb, hml, hown, hts, hK, hA, hlk, hnw, hcl, hsl⟩ := h
  exact fun H locs ls hP hD hS hl => lv_isub hx hb hd (k _ _ _ hP hD hS hl)
theorem v_imul (h : Ok x g cc own rm nL) {a b : Int32} (hd : decode cc pc = .ok (.imul, 1)) (k : vM x (pc + 1) (lv) (.int (a * b) :: st) ws) : vM x pc (lv) (.int b :: .int a :: st) ws := by
  obtain ⟨g0, p, e, R, s, m, args, below, meth, c, cells, slots, Q, A, nL0⟩ := x
  obtain ⟨rfl, rfl, rfl, hx, hb, hml, hown, hts, hK, hA, hlk, hnw, hcl, hsl⟩ := h
  exact fun H locs ls hP hD hS hl => lv_imul hx hb hd (k _ _ _ hP hD hS hl)
theorem v_iand (h : Ok x g cc own rm nL) {a b : Int32} (hd : decode cc pc = .ok (.iand, 1)) (k : vM x (pc + 1) (lv) (.int (a &&& b) :: st) ws) : vM x pc (lv) (.int b :: .int a :: st) ws := by
  obtain ⟨g0, p, e, R, s, m, args, below, meth, c, cells, slots, Q, A, nL0⟩ := x
  obtain ⟨rfl, rfl, rfl, hx, hb, hml, hown, hts, hK, hA, hlk, hnw, hcl, hsl⟩ := h
  exact fun H locs ls hP hD hS hl => lv_iand hx hb hd (k _ _ _ hP hD hS hl)
theorem v_ior (h : Ok x g cc own rm nL) {a b : Int32} (hd : decode cc pc = .ok (.ior, 1)) (k : vM x (pc + 1) (lv) (.int (a ||| b) :: st) ws) : vM x pc (lv) (.int b :: .int a :: st) ws := by
  obtain ⟨g0, p, e, R, s, m, args, below, meth, c, cells, slots, Q, A, nL0⟩ := x
  obtain ⟨rfl, rfl, rfl, hx, hb, hml, hown, hts, hK, hA, hlk, hnw, hcl, hsl⟩ := h
  exact fun H locs ls hP hD hS hl => lv_ior hx hb hd (k _ _ _ hP hD hS hl)
theorem v_ixor (h : Ok x g cc own rm nL) {a b : Int32} (hd : decode cc pc = .ok (.ixor, 1)) (k : vM x (pc + 1) (lv) (.int (a ^^^ b) :: st) ws) : vM x pc (lv) (.int b :: .int a :: st) ws := by
  obtain ⟨g0, p, e, R, s, m, args, below, meth, c, cells, slots, Q, A, nL0⟩ := x
  obtain ⟨rfl, rfl, rfl, hx, hb, hml, hown, hts, hK, hA, hlk, hnw, hcl, hsl⟩ := h
  exact fun H locs ls hP hD hS hl => lv_ixor hx hb hd (k _ _ _ hP hD hS hl)
theorem v_ishl (h : Ok x g cc own rm nL) {a b : Int32} (hd : decode cc pc = .ok (.ishl, 1)) (k : vM x (pc + 1) (lv) (.int (a <<< (b &&& 31)) :: st) ws) : vM x pc (lv) (.int b :: .int a :: st) ws := by
  obtain ⟨g0, p, e, R, s, m, args, below, meth, c, cells, slots, Q, A, nL0⟩ := x
  obtain ⟨rfl, rfl, rfl, hx, hb, hml, hown, hts, hK, hA, hlk, hnw, hcl, hsl⟩ := h
  exact fun H locs ls hP hD hS hl => lv_ishl hx hb hd (k _ _ _ hP hD hS hl)
theorem v_ishr (h : Ok x g cc own rm nL) {a b : Int32} (hd : decode cc pc = .ok (.ishr, 1)) (k : vM x (pc + 1) (lv) (.int (a >>> (b &&& 31)) :: st) ws) : vM x pc (lv) (.int b :: .int a :: st) ws := by
  obtain ⟨g0, p, e, R, s, m, args, below, meth, c, cells, slots, Q, A, nL0⟩ := x
  obtain ⟨rfl, rfl, rfl, hx, hb, hml, hown, hts, hK, hA, hlk, hnw, hcl, hsl⟩ := h
  exact fun H locs ls hP hD hS hl => lv_ishr hx hb hd (k _ _ _ hP hD hS hl)
theorem v_iushr (h : Ok x g cc own rm nL) {a b v : Int32} (hd : decode cc pc = .ok (.iushr, 1)) (hv : (a.toUInt32 >>> (b.toUInt32 &&& Int32.toUInt32 31)).toInt32 = v) (k : vM x (pc + 1) (lv) (.int v :: st) ws) : vM x pc (lv) (.int b :: .int a :: st) ws := by
  obtain ⟨g0, p, e, R, s, m, args, below, meth, c, cells, slots, Q, A, nL0⟩ := x
  obtain ⟨rfl, rfl, rfl, hx, hb, hml, hown, hts, hK, hA, hlk, hnw, hcl, hsl⟩ := h
  exact fun H locs ls hP hD hS hl => lv_iushr hx hb hd hv (k _ _ _ hP hD hS hl)
theorem v_idiv (h : Ok x g cc own rm nL) {a b : Int32} (hd : decode cc pc = .ok (.idiv, 1)) (hb0 : ¬ b = 0) (k : vM x (pc + 1) (lv) (.int (a / b) :: st) ws) : vM x pc (lv) (.int b :: .int a :: st) ws := by
  obtain ⟨g0, p, e, R, s, m, args, below, meth, c, cells, slots, Q, A, nL0⟩ := x
  obtain ⟨rfl, rfl, rfl, hx, hb, hml, hown, hts, hK, hA, hlk, hnw, hcl, hsl⟩ := h
  exact fun H locs ls hP hD hS hl => lv_idiv hx hb hd hb0 (k _ _ _ hP hD hS hl)
theorem v_irem (h : Ok x g cc own rm nL) {a b : Int32} (hd : decode cc pc = .ok (.irem, 1)) (hb0 : ¬ b = 0) (k : vM x (pc + 1) (lv) (.int (a - a / b * b) :: st) ws) : vM x pc (lv) (.int b :: .int a :: st) ws := by
  obtain ⟨g0, p, e, R, s, m, args, below, meth, c, cells, slots, Q, A, nL0⟩ := x
  obtain ⟨rfl, rfl, rfl, hx, hb, hml, hown, hts, hK, hA, hlk, hnw, hcl, hsl⟩ := h
  exact fun H locs ls hP hD hS hl => lv_irem hx hb hd hb0 (k _ _ _ hP hD hS hl)
theorem v_i2b (h : Ok x g cc own rm nL) {a : Int32} (hd : decode cc pc = .ok (.i2b, 1)) (k : vM x (pc + 1) (lv) (.int (a.toInt8.toInt32) :: st) ws) : vM x pc (lv) (.int a :: st) ws := by
  obtain ⟨g0, p, e, R, s, m, args, below, meth, c, cells, slots, Q, A, nL0⟩ := x
  obtain ⟨rfl, rfl, rfl, hx, hb, hml, hown, hts, hK, hA, hlk, hnw, hcl, hsl⟩ := h
  exact fun H locs ls hP hD hS hl => lv_i2b hx hb hd rfl (k _ _ _ hP hD hS hl)
theorem v_i2s (h : Ok x g cc own rm nL) {a : Int32} (hd : decode cc pc = .ok (.i2s, 1)) (k : vM x (pc + 1) (lv) (.int (a.toInt16.toInt32) :: st) ws) : vM x pc (lv) (.int a :: st) ws := by
  obtain ⟨g0, p, e, R, s, m, args, below, meth, c, cells, slots, Q, A, nL0⟩ := x
  obtain ⟨rfl, rfl, rfl, hx, hb, hml, hown, hts, hK, hA, hlk, hnw, hcl, hsl⟩ := h
  exact fun H locs ls hP hD hS hl => lv_i2s hx hb hd rfl (k _ _ _ hP hD hS hl)
theorem v_i2l (h : Ok x g cc own rm nL) {a : Int32} (hd : decode cc pc = .ok (.i2l, 1)) (k : vM x (pc + 1) (lv) (.long a.toInt64 :: st) ws) : vM x pc (lv) (.int a :: st) ws := by
  obtain ⟨g0, p, e, R, s, m, args, below, meth, c, cells, slots, Q, A, nL0⟩ := x
  obtain ⟨rfl, rfl, rfl, hx, hb, hml, hown, hts, hK, hA, hlk, hnw, hcl, hsl⟩ := h
  exact fun H locs ls hP hD hS hl => lv_i2l hx hb hd rfl (k _ _ _ hP hD hS hl)
theorem v_dup (h : Ok x g cc own rm nL) {v : Value} (hd : decode cc pc = .ok (.dup, 1)) (hv : v.category = 1) (k : vM x (pc + 1) (lv) (v :: v :: st) ws) : vM x pc (lv) (v :: st) ws := by
  obtain ⟨g0, p, e, R, s, m, args, below, meth, c, cells, slots, Q, A, nL0⟩ := x
  obtain ⟨rfl, rfl, rfl, hx, hb, hml, hown, hts, hK, hA, hlk, hnw, hcl, hsl⟩ := h
  exact fun H locs ls hP hD hS hl => lv_dup hx hb hd hv (k _ _ _ hP hD hS hl)
theorem v_dup2 (h : Ok x g cc own rm nL) {v w : Value} (hd : decode cc pc = .ok (.dup2, 1)) (hv : v.category = 1) (hw : w.category = 1) (k : vM x (pc + 1) (lv) (v :: w :: v :: w :: st) ws) : vM x pc (lv) (v :: w :: st) ws := by
  obtain ⟨g0, p, e, R, s, m, args, below, meth, c, cells, slots, Q, A, nL0⟩ := x
  obtain ⟨rfl, rfl, rfl, hx, hb, hml, hown, hts, hK, hA, hlk, hnw, hcl, hsl⟩ := h
  exact fun H locs ls hP hD hS hl => lv_dup2_11 hx hb hd hv hw (k _ _ _ hP hD hS hl)
theorem v_iaddN (h : Ok x g cc own rm nL) {a b : Nat} (hd : decode cc pc = .ok (.iadd, 1)) (k : vM x (pc + 1) lv (.int (nI (a + b)) :: st) ws) : vM x pc lv (.int (nI b) :: .int (nI a) :: st) ws := by
  refine v_iadd h hd ?_
  rw [nI_add]
  exact k
theorem v_isubN (h : Ok x g cc own rm nL) {a b : Nat} (hd : decode cc pc = .ok (.isub, 1)) (hle : b ≤ a) (k : vM x (pc + 1) lv (.int (nI (a - b)) :: st) ws) : vM x pc lv (.int (nI b) :: .int (nI a) :: st) ws := by
  refine v_isub h hd ?_
  rw [pk_sub hle]
  exact k
theorem v_imulN (h : Ok x g cc own rm nL) {a b : Nat} (hd : decode cc pc = .ok (.imul, 1)) (k : vM x (pc + 1) lv (.int (nI (a * b)) :: st) ws) : vM x pc lv (.int (nI b) :: .int (nI a) :: st) ws := by
  refine v_imul h hd ?_
  rw [pk_mul]
  exact k
theorem v_idivN (h : Ok x g cc own rm nL) {a b : Nat} (hd : decode cc pc = .ok (.idiv, 1)) (ha : a < 2 ^ 31) (h0 : 0 < b) (hb2 : b < 2 ^ 31) (k : vM x (pc + 1) lv (.int (nI (a / b)) :: st) ws) : vM x pc lv (.int (nI b) :: .int (nI a) :: st) ws := by
  refine v_idiv h hd (nI_ne0 h0 hb2) ?_
  rw [pk_div ha h0 hb2]
  exact k
theorem v_iremN (h : Ok x g cc own rm nL) {a b : Nat} (hd : decode cc pc = .ok (.irem, 1)) (ha : a < 2 ^ 31) (h0 : 0 < b) (hb2 : b < 2 ^ 31) (k : vM x (pc + 1) lv (.int (nI (a % b)) :: st) ws) : vM x pc lv (.int (nI b) :: .int (nI a) :: st) ws := by
  refine v_irem h hd (nI_ne0 h0 hb2) ?_
  rw [pk_rem ha h0 hb2]
  exact k
theorem v_iandN (h : Ok x g cc own rm nL) {a b : Nat} (hd : decode cc pc = .ok (.iand, 1)) (k : vM x (pc + 1) lv (.int (nI (a &&& b)) :: st) ws) : vM x pc lv (.int (nI b) :: .int (nI a) :: st) ws := by
  refine v_iand h hd ?_
  rw [nI_and]
  exact k
theorem v_iorN (h : Ok x g cc own rm nL) {a b : Nat} (hd : decode cc pc = .ok (.ior, 1)) (k : vM x (pc + 1) lv (.int (nI (a ||| b)) :: st) ws) : vM x pc lv (.int (nI b) :: .int (nI a) :: st) ws := by
  refine v_ior h hd ?_
  rw [nI_or]
  exact k
theorem v_ishlN (h : Ok x g cc own rm nL) {b : Nat} (hd : decode cc pc = .ok (.ishl, 1)) (hb2 : b < 32) (k : vM x (pc + 1) lv (.int (nI (2 ^ b)) :: st) ws) : vM x pc lv (.int (nI b) :: .int (nI 1) :: st) ws := by
  refine v_ishl h hd ?_
  rw [nI_shl1 hb2]
  exact k
theorem v_ishrN (h : Ok x g cc own rm nL) {a b : Nat} (hd : decode cc pc = .ok (.ishr, 1)) (ha : a < 2 ^ 31) (hb2 : b < 32) (k : vM x (pc + 1) lv (.int (nI (a / 2 ^ b)) :: st) ws) : vM x pc lv (.int (nI b) :: .int (nI a) :: st) ws := by
  refine v_ishr h hd ?_
  rw [nI_shr ha hb2]
  exact k
theorem v_iandM (h : Ok x g cc own rm nL) {a b : Nat} (hd : decode cc pc = .ok (.iand, 1)) (k : vM x (pc + 1) lv (.int (nI (sdiff b a)) :: st) ws) : vM x pc lv (.int (nI a ^^^ (-1)) :: .int (nI b) :: st) ws := by
  refine v_iand h hd ?_
  rw [nI_sdiff]
  exact k
theorem v_goto (h : Ok x g cc own rm nL) {off : Int} {tgt : Nat} (hd : decode cc pc = .ok (.goto off, 3)) (ht : (pc : Int) + off = (tgt : Int)) (k : vM x (tgt) (lv) (st) ws) : vM x pc (lv) (st) ws := by
  obtain ⟨g0, p, e, R, s, m, args, below, meth, c, cells, slots, Q, A, nL0⟩ := x
  obtain ⟨rfl, rfl, rfl, hx, hb, hml, hown, hts, hK, hA, hlk, hnw, hcl, hsl⟩ := h
  exact fun H locs ls hP hD hS hl => lv_goto hx hb hd ht (k _ _ _ hP hD hS hl)
theorem v_icmp_lt (h : Ok x g cc own rm nL) {a b : Int32} {off : Int} {tgt : Nat} (hd : decode cc pc = .ok (.if_icmp .lt off, 3)) (ht : (pc : Int) + off = (tgt : Int)) (kt : a < b → vM x tgt lv st ws) (kf : ¬ a < b → vM x (pc + 3) lv st ws) : vM x pc lv (.int b :: .int a :: st) ws := by
  obtain ⟨g0, p, e, R, s, m, args, below, meth, c, cells, slots, Q, A, nL0⟩ := x
  obtain ⟨rfl, rfl, rfl, hx, hb, hml, hown, hts, hK, hA, hlk, hnw, hcl, hsl⟩ := h
  exact fun H locs ls hP hD hS hl => lv_icmp_lt hx hb hd ht (fun c9 => kt c9 _ _ _ hP hD hS hl) (fun c9 => kf c9 _ _ _ hP hD hS hl)
theorem v_if_lt (h : Ok x g cc own rm nL) {a : Int32} {off : Int} {tgt : Nat} (hd : decode cc pc = .ok (.ifCond .lt off, 3)) (ht : (pc : Int) + off = (tgt : Int)) (kt : a < 0 → vM x tgt lv st ws) (kf : ¬ a < 0 → vM x (pc + 3) lv st ws) : vM x pc lv (.int a :: st) ws := by
  obtain ⟨g0, p, e, R, s, m, args, below, meth, c, cells, slots, Q, A, nL0⟩ := x
  obtain ⟨rfl, rfl, rfl, hx, hb, hml, hown, hts, hK, hA, hlk, hnw, hcl, hsl⟩ := h
  exact fun H locs ls hP hD hS hl => lv_if_lt hx hb hd ht (fun c9 => kt c9 _ _ _ hP hD hS hl) (fun c9 => kf c9 _ _ _ hP hD hS hl)
theorem v_icmp_ge (h : Ok x g cc own rm nL) {a b : Int32} {off : Int} {tgt : Nat} (hd : decode cc pc = .ok (.if_icmp .ge off, 3)) (ht : (pc : Int) + off = (tgt : Int)) (kt : b ≤ a → vM x tgt lv st ws) (kf : ¬ b ≤ a → vM x (pc + 3) lv st ws) : vM x pc lv (.int b :: .int a :: st) ws := by
  obtain ⟨g0, p, e, R, s, m, args, below, meth, c, cells, slots, Q, A, nL0⟩ := x
  obtain ⟨rfl, rfl, rfl, hx, hb, hml, hown, hts, hK, hA, hlk, hnw, hcl, hsl⟩ := h
  exact fun H locs ls hP hD hS hl => lv_icmp_ge hx hb hd ht (fun c9 => kt c9 _ _ _ hP hD hS hl) (fun c9 => kf c9 _ _ _ hP hD hS hl)
theorem v_if_ge (h : Ok x g cc own rm nL) {a : Int32} {off : Int} {tgt : Nat} (hd : decode cc pc = .ok (.ifCond .ge off, 3)) (ht : (pc : Int) + off = (tgt : Int)) (kt : 0 ≤ a → vM x tgt lv st ws) (kf : ¬ 0 ≤ a → vM x (pc + 3) lv st ws) : vM x pc lv (.int a :: st) ws := by
  obtain ⟨g0, p, e, R, s, m, args, below, meth, c, cells, slots, Q, A, nL0⟩ := x
  obtain ⟨rfl, rfl, rfl, hx, hb, hml, hown, hts, hK, hA, hlk, hnw, hcl, hsl⟩ := h
  exact fun H locs ls hP hD hS hl => lv_if_ge hx hb hd ht (fun c9 => kt c9 _ _ _ hP hD hS hl) (fun c9 => kf c9 _ _ _ hP hD hS hl)
theorem v_icmp_gt (h : Ok x g cc own rm nL) {a b : Int32} {off : Int} {tgt : Nat} (hd : decode cc pc = .ok (.if_icmp .gt off, 3)) (ht : (pc : Int) + off = (tgt : Int)) (kt : b < a → vM x tgt lv st ws) (kf : ¬ b < a → vM x (pc + 3) lv st ws) : vM x pc lv (.int b :: .int a :: st) ws := by
  obtain ⟨g0, p, e, R, s, m, args, below, meth, c, cells, slots, Q, A, nL0⟩ := x
  obtain ⟨rfl, rfl, rfl, hx, hb, hml, hown, hts, hK, hA, hlk, hnw, hcl, hsl⟩ := h
  exact fun H locs ls hP hD hS hl => lv_icmp_gt hx hb hd ht (fun c9 => kt c9 _ _ _ hP hD hS hl) (fun c9 => kf c9 _ _ _ hP hD hS hl)
theorem v_if_gt (h : Ok x g cc own rm nL) {a : Int32} {off : Int} {tgt : Nat} (hd : decode cc pc = .ok (.ifCond .gt off, 3)) (ht : (pc : Int) + off = (tgt : Int)) (kt : 0 < a → vM x tgt lv st ws) (kf : ¬ 0 < a → vM x (pc + 3) lv st ws) : vM x pc lv (.int a :: st) ws := by
  obtain ⟨g0, p, e, R, s, m, args, below, meth, c, cells, slots, Q, A, nL0⟩ := x
  obtain ⟨rfl, rfl, rfl, hx, hb, hml, hown, hts, hK, hA, hlk, hnw, hcl, hsl⟩ := h
  exact fun H locs ls hP hD hS hl => lv_if_gt hx hb hd ht (fun c9 => kt c9 _ _ _ hP hD hS hl) (fun c9 => kf c9 _ _ _ hP hD hS hl)
theorem v_icmp_le (h : Ok x g cc own rm nL) {a b : Int32} {off : Int} {tgt : Nat} (hd : decode cc pc = .ok (.if_icmp .le off, 3)) (ht : (pc : Int) + off = (tgt : Int)) (kt : a ≤ b → vM x tgt lv st ws) (kf : ¬ a ≤ b → vM x (pc + 3) lv st ws) : vM x pc lv (.int b :: .int a :: st) ws := by
  obtain ⟨g0, p, e, R, s, m, args, below, meth, c, cells, slots, Q, A, nL0⟩ := x
  obtain ⟨rfl, rfl, rfl, hx, hb, hml, hown, hts, hK, hA, hlk, hnw, hcl, hsl⟩ := h
  exact fun H locs ls hP hD hS hl => lv_icmp_le hx hb hd ht (fun c9 => kt c9 _ _ _ hP hD hS hl) (fun c9 => kf c9 _ _ _ hP hD hS hl)
theorem v_if_le (h : Ok x g cc own rm nL) {a : Int32} {off : Int} {tgt : Nat} (hd : decode cc pc = .ok (.ifCond .le off, 3)) (ht : (pc : Int) + off = (tgt : Int)) (kt : a ≤ 0 → vM x tgt lv st ws) (kf : ¬ a ≤ 0 → vM x (pc + 3) lv st ws) : vM x pc lv (.int a :: st) ws := by
  obtain ⟨g0, p, e, R, s, m, args, below, meth, c, cells, slots, Q, A, nL0⟩ := x
  obtain ⟨rfl, rfl, rfl, hx, hb, hml, hown, hts, hK, hA, hlk, hnw, hcl, hsl⟩ := h
  exact fun H locs ls hP hD hS hl => lv_if_le hx hb hd ht (fun c9 => kt c9 _ _ _ hP hD hS hl) (fun c9 => kf c9 _ _ _ hP hD hS hl)
theorem v_icmp_eq (h : Ok x g cc own rm nL) {a b : Int32} {off : Int} {tgt : Nat} (hd : decode cc pc = .ok (.if_icmp .eq off, 3)) (ht : (pc : Int) + off = (tgt : Int)) (kt : a = b → vM x tgt lv st ws) (kf : ¬ a = b → vM x (pc + 3) lv st ws) : vM x pc lv (.int b :: .int a :: st) ws := by
  obtain ⟨g0, p, e, R, s, m, args, below, meth, c, cells, slots, Q, A, nL0⟩ := x
  obtain ⟨rfl, rfl, rfl, hx, hb, hml, hown, hts, hK, hA, hlk, hnw, hcl, hsl⟩ := h
  exact fun H locs ls hP hD hS hl => lv_icmp_eq hx hb hd ht (fun c9 => kt c9 _ _ _ hP hD hS hl) (fun c9 => kf c9 _ _ _ hP hD hS hl)
theorem v_if_eq (h : Ok x g cc own rm nL) {a : Int32} {off : Int} {tgt : Nat} (hd : decode cc pc = .ok (.ifCond .eq off, 3)) (ht : (pc : Int) + off = (tgt : Int)) (kt : a = 0 → vM x tgt lv st ws) (kf : ¬ a = 0 → vM x (pc + 3) lv st ws) : vM x pc lv (.int a :: st) ws := by
  obtain ⟨g0, p, e, R, s, m, args, below, meth, c, cells, slots, Q, A, nL0⟩ := x
  obtain ⟨rfl, rfl, rfl, hx, hb, hml, hown, hts, hK, hA, hlk, hnw, hcl, hsl⟩ := h
  exact fun H locs ls hP hD hS hl => lv_if_eq hx hb hd ht (fun c9 => kt c9 _ _ _ hP hD hS hl) (fun c9 => kf c9 _ _ _ hP hD hS hl)
theorem v_icmp_ne (h : Ok x g cc own rm nL) {a b : Int32} {off : Int} {tgt : Nat} (hd : decode cc pc = .ok (.if_icmp .ne off, 3)) (ht : (pc : Int) + off = (tgt : Int)) (kt : ¬ a = b → vM x tgt lv st ws) (kf : a = b → vM x (pc + 3) lv st ws) : vM x pc lv (.int b :: .int a :: st) ws := by
  obtain ⟨g0, p, e, R, s, m, args, below, meth, c, cells, slots, Q, A, nL0⟩ := x
  obtain ⟨rfl, rfl, rfl, hx, hb, hml, hown, hts, hK, hA, hlk, hnw, hcl, hsl⟩ := h
  exact fun H locs ls hP hD hS hl => lv_icmp_ne hx hb hd ht (fun c9 => kt c9 _ _ _ hP hD hS hl) (fun c9 => kf c9 _ _ _ hP hD hS hl)
theorem v_if_ne (h : Ok x g cc own rm nL) {a : Int32} {off : Int} {tgt : Nat} (hd : decode cc pc = .ok (.ifCond .ne off, 3)) (ht : (pc : Int) + off = (tgt : Int)) (kt : ¬ a = 0 → vM x tgt lv st ws) (kf : a = 0 → vM x (pc + 3) lv st ws) : vM x pc lv (.int a :: st) ws := by
  obtain ⟨g0, p, e, R, s, m, args, below, meth, c, cells, slots, Q, A, nL0⟩ := x
  obtain ⟨rfl, rfl, rfl, hx, hb, hml, hown, hts, hK, hA, hlk, hnw, hcl, hsl⟩ := h
  exact fun H locs ls hP hD hS hl => lv_if_ne hx hb hd ht (fun c9 => kt c9 _ _ _ hP hD hS hl) (fun c9 => kf c9 _ _ _ hP hD hS hl)
theorem v_icmp_ltN (h : Ok x g cc own rm nL) {a b : Nat} {off : Int} {tgt : Nat} (hd : decode cc pc = .ok (.if_icmp .lt off, 3)) (ht : (pc : Int) + off = (tgt : Int)) (ha : a < 2 ^ 31) (hb2 : b < 2 ^ 31) (kt : a < b → vM x tgt lv st ws) (kf : b ≤ a → vM x (pc + 3) lv st ws) : vM x pc lv (.int (nI b) :: .int (nI a) :: st) ws := v_icmp_lt h hd ht (fun c9 => kt ((nI_ltI ha hb2).mp c9)) (fun c9 => kf (by have q9 := mt (nI_ltI ha hb2).mpr c9; omega))
theorem v_icmp_geN (h : Ok x g cc own rm nL) {a b : Nat} {off : Int} {tgt : Nat} (hd : decode cc pc = .ok (.if_icmp .ge off, 3)) (ht : (pc : Int) + off = (tgt : Int)) (ha : a < 2 ^ 31) (hb2 : b < 2 ^ 31) (kt : b ≤ a → vM x tgt lv st ws) (kf : a < b → vM x (pc + 3) lv st ws) : vM x pc lv (.int (nI b) :: .int (nI a) :: st) ws := v_icmp_ge h hd ht (fun c9 => kt ((nI_leI hb2 ha).mp c9)) (fun c9 => kf (by have q9 := mt (nI_leI hb2 ha).mpr c9; omega))
theorem v_icmp_gtN (h : Ok x g cc own rm nL) {a b : Nat} {off : Int} {tgt : Nat} (hd : decode cc pc = .ok (.if_icmp .gt off, 3)) (ht : (pc : Int) + off = (tgt : Int)) (ha : a < 2 ^ 31) (hb2 : b < 2 ^ 31) (kt : b < a → vM x tgt lv st ws) (kf : a ≤ b → vM x (pc + 3) lv st ws) : vM x pc lv (.int (nI b) :: .int (nI a) :: st) ws := v_icmp_gt h hd ht (fun c9 => kt ((nI_ltI hb2 ha).mp c9)) (fun c9 => kf (by have q9 := mt (nI_ltI hb2 ha).mpr c9; omega))
theorem v_icmp_leN (h : Ok x g cc own rm nL) {a b : Nat} {off : Int} {tgt : Nat} (hd : decode cc pc = .ok (.if_icmp .le off, 3)) (ht : (pc : Int) + off = (tgt : Int)) (ha : a < 2 ^ 31) (hb2 : b < 2 ^ 31) (kt : a ≤ b → vM x tgt lv st ws) (kf : b < a → vM x (pc + 3) lv st ws) : vM x pc lv (.int (nI b) :: .int (nI a) :: st) ws := v_icmp_le h hd ht (fun c9 => kt ((nI_leI ha hb2).mp c9)) (fun c9 => kf (by have q9 := mt (nI_leI ha hb2).mpr c9; omega))
theorem v_icmp_eqN (h : Ok x g cc own rm nL) {a b : Nat} {off : Int} {tgt : Nat} (hd : decode cc pc = .ok (.if_icmp .eq off, 3)) (ht : (pc : Int) + off = (tgt : Int)) (ha : a < 2 ^ 31) (hb2 : b < 2 ^ 31) (kt : a = b → vM x tgt lv st ws) (kf : ¬ a = b → vM x (pc + 3) lv st ws) : vM x pc lv (.int (nI b) :: .int (nI a) :: st) ws := v_icmp_eq h hd ht (fun c9 => kt ((nI_eq ha hb2).mp c9)) (fun c9 => kf (fun z => c9 ((nI_eq ha hb2).mpr z)))
theorem v_icmp_neN (h : Ok x g cc own rm nL) {a b : Nat} {off : Int} {tgt : Nat} (hd : decode cc pc = .ok (.if_icmp .ne off, 3)) (ht : (pc : Int) + off = (tgt : Int)) (ha : a < 2 ^ 31) (hb2 : b < 2 ^ 31) (kt : ¬ a = b → vM x tgt lv st ws) (kf : a = b → vM x (pc + 3) lv st ws) : vM x pc lv (.int (nI b) :: .int (nI a) :: st) ws := v_icmp_ne h hd ht (fun c9 => kt (fun z => c9 ((nI_eq ha hb2).mpr z))) (fun c9 => kf ((nI_eq ha hb2).mp c9))
theorem v_if_eqN (h : Ok x g cc own rm nL) {a : Nat} {off : Int} {tgt : Nat} (hd : decode cc pc = .ok (.ifCond .eq off, 3)) (ht : (pc : Int) + off = (tgt : Int)) (ha : a < 2 ^ 31) (kt : a = 0 → vM x tgt lv st ws) (kf : 0 < a → vM x (pc + 3) lv st ws) : vM x pc lv (.int (nI a) :: st) ws := v_if_eq h hd ht (fun c9 => kt ((nI_eq (b := 0) ha (by decide)).mp c9)) (fun c9 => kf (by rcases Nat.eq_zero_or_pos a with z | z; (subst z; exact absurd rfl c9); exact z))
theorem v_if_neN (h : Ok x g cc own rm nL) {a : Nat} {off : Int} {tgt : Nat} (hd : decode cc pc = .ok (.ifCond .ne off, 3)) (ht : (pc : Int) + off = (tgt : Int)) (ha : a < 2 ^ 31) (kt : 0 < a → vM x tgt lv st ws) (kf : a = 0 → vM x (pc + 3) lv st ws) : vM x pc lv (.int (nI a) :: st) ws := v_if_ne h hd ht (fun c9 => kt (by rcases Nat.eq_zero_or_pos a with z | z; (subst z; exact absurd rfl c9); exact z)) (fun c9 => kf ((nI_eq (b := 0) ha (by decide)).mp c9))
theorem v_if_leN (h : Ok x g cc own rm nL) {a : Nat} {off : Int} {tgt : Nat} (hd : decode cc pc = .ok (.ifCond .le off, 3)) (ht : (pc : Int) + off = (tgt : Int)) (ha : a < 2 ^ 31) (kt : a = 0 → vM x tgt lv st ws) (kf : 0 < a → vM x (pc + 3) lv st ws) : vM x pc lv (.int (nI a) :: st) ws := v_if_le h hd ht (fun c9 => kt (by have := (nI_leI (b := 0) ha (by decide)).mp c9; omega)) (fun c9 => kf (by rcases Nat.eq_zero_or_pos a with z | z; (subst z; exact absurd (by decide) c9); exact z))
theorem v_if_ltN (h : Ok x g cc own rm nL) {a : Nat} {off : Int} {tgt : Nat} (hd : decode cc pc = .ok (.ifCond .lt off, 3)) (ha : a < 2 ^ 31) (ht : (pc : Int) + off = (tgt : Int)) (kf : vM x (pc + 3) lv st ws) : vM x pc lv (.int (nI a) :: st) ws := v_if_lt h hd ht (fun c9 => absurd c9 (nI_pos ha)) (fun _ => kf)
theorem v_if_geN (h : Ok x g cc own rm nL) {a : Nat} {off : Int} {tgt : Nat} (hd : decode cc pc = .ok (.ifCond .ge off, 3)) (ha : a < 2 ^ 31) (ht : (pc : Int) + off = (tgt : Int)) (kt : vM x tgt lv st ws) : vM x pc lv (.int (nI a) :: st) ws := v_if_ge h hd ht (fun _ => kt) (fun c9 => absurd (nI_pos' ha) c9)
theorem v_if_eqB (h : Ok x g cc own rm nL) {b : Bool} {off : Int} {tgt : Nat} (hd : decode cc pc = .ok (.ifCond .eq off, 3)) (ht : (pc : Int) + off = (tgt : Int)) (kt : b = false → vM x tgt lv st ws) (kf : b = true → vM x (pc + 3) lv st ws) : vM x pc lv (.int (nI (bN b)) :: st) ws := v_if_eq h hd ht (fun c9 => kt (by cases b; rfl; exact absurd c9 (by decide))) (fun c9 => kf (by cases b; exact absurd rfl c9; rfl))
theorem v_if_neB (h : Ok x g cc own rm nL) {b : Bool} {off : Int} {tgt : Nat} (hd : decode cc pc = .ok (.ifCond .ne off, 3)) (ht : (pc : Int) + off = (tgt : Int)) (kt : b = true → vM x tgt lv st ws) (kf : b = false → vM x (pc + 3) lv st ws) : vM x pc lv (.int (nI (bN b)) :: st) ws := v_if_ne h hd ht (fun c9 => kt (by cases b; exact absurd rfl c9; rfl)) (fun c9 => kf (by cases b; rfl; exact absurd c9 (by decide)))
theorem v_iret (h : Ok x g cc own rm nL) {v w : Int32} {wo : va_W} (hr : Ret x (some .int) (some (.int w)) wo) (hd : decode cc pc = .ok (.ireturn, 1)) (hv : v = w) (hw : ws = wo) : vM x pc lv [.int v] ws := by
  subst hv; subst hw
  obtain ⟨g0, p, e, R, s, m, args, below, meth, c, cells, slots, Q, A, nL0⟩ := x
  obtain ⟨rfl, rfl, rfl, hx, hb, hml, hown, hts, hK, hA, hlk, hnw, hcl, hsl⟩ := h
  obtain ⟨hrt, Qc, free, rfl, hfr, hq⟩ := hr
  exact fun H locs ls hP hD hS hl => W.iret hx hb hrt (fun t ht hW => hq t _ _ ht hW hP hS) (fun q hq2 => hfr _ (hS.2.2 q hq2)) hd
theorem v_zret (h : Ok x g cc own rm nL) {v w : Bool} {wo : va_W} (hr : Ret x (some .boolean) (some (.int (nI (bN w)))) wo) (hd : decode cc pc = .ok (.ireturn, 1)) (hv : v = w) (hw : ws = wo) : vM x pc lv [.int (nI (bN v))] ws := by
  subst hv; subst hw
  obtain ⟨g0, p, e, R, s, m, args, below, meth, c, cells, slots, Q, A, nL0⟩ := x
  obtain ⟨rfl, rfl, rfl, hx, hb, hml, hown, hts, hK, hA, hlk, hnw, hcl, hsl⟩ := h
  obtain ⟨hrt, Qc, free, rfl, hfr, hq⟩ := hr
  exact fun H locs ls hP hD hS hl => W.zret hx hb hrt (by cases v <;> rfl) (fun t ht hW => hq t _ _ ht hW hP hS) (fun q hq2 => hfr _ (hS.2.2 q hq2)) hd
theorem v_lret (h : Ok x g cc own rm nL) {v w : Int64} {wo : va_W} (hr : Ret x (some .long) (some (.long w)) wo) (hd : decode cc pc = .ok (.lreturn, 1)) (hv : v = w) (hw : ws = wo) : vM x pc lv [.long v] ws := by
  subst hv; subst hw
  obtain ⟨g0, p, e, R, s, m, args, below, meth, c, cells, slots, Q, A, nL0⟩ := x
  obtain ⟨rfl, rfl, rfl, hx, hb, hml, hown, hts, hK, hA, hlk, hnw, hcl, hsl⟩ := h
  obtain ⟨hrt, Qc, free, rfl, hfr, hq⟩ := hr
  exact fun H locs ls hP hD hS hl => W.lret hx hb hrt (fun t ht hW => hq t _ _ ht hW hP hS) (fun q hq2 => hfr _ (hS.2.2 q hq2)) hd
theorem v_vret (h : Ok x g cc own rm nL) {wo : va_W} (hr : Ret x none none wo) (hd : decode cc pc = .ok (.return_, 1)) (hw : ws = wo) : vM x pc lv [] ws := by
  subst hw
  obtain ⟨g0, p, e, R, s, m, args, below, meth, c, cells, slots, Q, A, nL0⟩ := x
  obtain ⟨rfl, rfl, rfl, hx, hb, hml, hown, hts, hK, hA, hlk, hnw, hcl, hsl⟩ := h
  obtain ⟨hrt, Qc, free, rfl, hfr, hq⟩ := hr
  exact fun H locs ls hP hD hS hl => W.vret hx hb hrt (fun t ht hW => hq t _ _ ht hW hP hS) (fun q hq2 => hfr _ (hS.2.2 q hq2)) hd

theorem v_get {C : String} {T : u_T} {N ci idx a : Nat} {fs : List Value} {v : Value} (h : Ok x g cc own rm nL) (hin : ∀ w ∈ u_ws C T N, w ∈ wsL_law) (q0 : Nat) (he : ws[q0]? = some (a, .inr (ci, fs))) (hc : vwCl[ci]? = some (C, T, N)) (k : Nat) (hk : k < N) (hlink : Cond.fieldLink own idx (T k).1 (T k).2.1 (T k).2.2.1 ∈ wsL_law) (hv : fs[k]? = some v) (hd : decode cc pc = .ok (.getfield idx, 3)) (kk : vM x (pc + 3) lv (v :: st) ws) : vM x pc lv (.ref a :: st) ws := by
  obtain ⟨g0, p, e, R, s, m, args, below, meth, c, cells, slots, Q, A, nL0⟩ := x
  obtain ⟨rfl, rfl, rfl, hx, hb, hml, hown, hts, hK, hA, hlk, hnw, hcl', hsl⟩ := h
  intro H locs ls hP hD hS hl
  exact va_get (D := gD g0) (own := own) hx hb hts hin hown hK hP q0 he hc k hk (hts _ hlink) (fun _ h9 => h9) hv hd (kk H locs ls hP hD hS hl)
theorem v_put {C : String} {T : u_T} {N ci idx a : Nat} {fs : List Value} {v : Value} {ty : FieldType} {ws' : va_W} (h : Ok x g cc own rm nL) (hin : ∀ w ∈ u_ws C T N, w ∈ wsL_law) (ty0 : Nat → FieldType) (hty : ∀ k, k < N → parseFieldDescriptor (T k).2.2.1 = some (ty0 k)) (hnm : ∀ a, a < N → ∀ b, b < N → a ≠ b → (T a).2.1 ≠ (T b).2.1) (q0 : Nat) (he : ws[q0]? = some (a, .inr (ci, fs))) (hc : vwCl[ci]? = some (C, T, N)) (k : Nat) (hk : k < N) (hlink : Cond.fieldLink own idx (T k).1 (T k).2.1 (T k).2.2.1 ∈ wsL_law) (hfin : (T k).2.2.2 = false) (hd2 : parseFieldDescriptor (T k).2.2.1 = some ty) (hn : narrow ty v = v) (hfit : fits ty v = true) (hl2 : k < fs.length) (hd : decode cc pc = .ok (.putfield idx, 3)) (hws : ws.set q0 (a, .inr (ci, fs.set k v)) = ws') (kk : vM x (pc + 3) lv st ws') : vM x pc lv (v :: .ref a :: st) ws := by
  subst hws
  obtain ⟨g0, p, e, R, s, m, args, below, meth, c, cells, slots, Q, A, nL0⟩ := x
  obtain ⟨rfl, rfl, rfl, hx, hb, hml, hown, hts, hK, hA, hlk, hnw, hcl', hsl⟩ := h
  intro H locs ls hP hD hS hl
  exact va_put (D := gD g0) (own := own) hx hb hts hin ty0 hty hnm hown hK hP hD hS q0 he hc k hk (hts _ hlink) (fun _ h9 => h9) hfin hd2 hn hfit hl2 hd (fun H1 locs1 hP1 hD1 hS1 => kk H1 locs1 ls hP1 hD1 hS1 hl)
theorem v_iald {n a : Nat} {f : Nat → Int32} {i : Int32} (h : Ok x g cc own rm nL) (q0 : Nat) (ha : ws[q0]? = some (a, .inl (gI g, n, .inl f))) (hin : vp_in i n) (hd : decode cc pc = .ok (.iaload, 1)) (kk : vM x (pc + 1) lv (.int (f i.toNatClampNeg) :: st) ws) : vM x pc lv (.int i :: .ref a :: st) ws := by
  obtain ⟨g0, p, e, R, s, m, args, below, meth, c, cells, slots, Q, A, nL0⟩ := x
  obtain ⟨rfl, rfl, rfl, hx, hb, hml, hown, hts, hK, hA, hlk, hnw, hcl', hsl⟩ := h
  intro H locs ls hP hD hS hl
  exact va_iald hx hb hK hP q0 0 ha rfl hin hd (kk H locs ls hP hD hS hl)
theorem v_ialdF {n a i : Nat} {f : Nat → Int32} (h : Ok x g cc own rm nL) (q0 : Nat) (ha : ws[q0]? = some (a, .inl (gI g, n, .inl f))) (hi : i < n) (hn : n < 2 ^ 31) (hd : decode cc pc = .ok (.iaload, 1)) (kk : vM x (pc + 1) lv (.int (f i) :: st) ws) : vM x pc lv (.int (nI i) :: .ref a :: st) ws := by
  refine v_iald h q0 ha (vp_in_nI hi hn) hd ?_
  rw [nI_clamp (by omega)]
  exact kk
theorem v_ialdN {n a i : Nat} {w : Nat → Nat} (h : Ok x g cc own rm nL) (q0 : Nat) (ha : ws[q0]? = some (a, .inl (gI g, n, .inl (fun j => nI (w j))))) (hi : i < n) (hn : n < 2 ^ 31) (hd : decode cc pc = .ok (.iaload, 1)) (kk : vM x (pc + 1) lv (.int (nI (w i)) :: st) ws) : vM x pc lv (.int (nI i) :: .ref a :: st) ws := v_ialdF h q0 ha hi hn hd kk
theorem v_zaldN {n a i : Nat} {w : Nat → Bool} (h : Ok x g cc own rm nL) (q0 : Nat) (ha : ws[q0]? = some (a, .inl (gZ g, n, .inl (fun j => nI (bN (w j)))))) (hi : i < n) (hn : n < 2 ^ 31) (hd : decode cc pc = .ok (.baload, 1)) (kk : vM x (pc + 1) lv (.int (nI (bN (w i))) :: st) ws) : vM x pc lv (.int (nI i) :: .ref a :: st) ws := by
  obtain ⟨g0, p, e, R, s, m, args, below, meth, c, cells, slots, Q, A, nL0⟩ := x
  obtain ⟨rfl, rfl, rfl, hx, hb, hml, hown, hts, hK, hA, hlk, hnw, hcl', hsl⟩ := h
  intro H locs ls hP hD hS hl
  refine va_zald hx hb hK hP q0 1 ha rfl (vp_in_nI hi hn) hd ?_
  rw [nI_clamp (by omega)]
  exact kk H locs ls hP hD hS hl
theorem v_aaldN {n a i : Nat} {f : Nat → Option Nat} (h : Ok x g cc own rm nL) (q0 : Nat) (ha : ws[q0]? = some (a, .inl (gA g, n, .inr (.inr (.inr (.inr f)))))) (hi : i < n) (hn : n < 2 ^ 31) {r : Nat} (hr : f i = some r) (hd : decode cc pc = .ok (.aaload, 1)) (kk : vM x (pc + 1) lv (.ref r :: st) ws) : vM x pc lv (.int (nI i) :: .ref a :: st) ws := by
  obtain ⟨g0, p, e, R, s, m, args, below, meth, c, cells, slots, Q, A, nL0⟩ := x
  obtain ⟨rfl, rfl, rfl, hx, hb, hml, hown, hts, hK, hA, hlk, hnw, hcl', hsl⟩ := h
  intro H locs ls hP hD hS hl
  have hin : vp_in (nI i) n := vp_in_nI hi hn
  have hlt : (nI i).toNatClampNeg < n := Nat.not_le.mp fun q => hin (Or.inr q)
  exact W.aald (v := .ref r) (ty := .array .int) hx hb (hP q0 _ ha) ((hK.2 2 _ rfl).1 n (fun j => va_rf (f j))) rfl (fun q => by cases q) (by show ¬ (nI i < 0 ∨ (arrV _ _ _).slots.size ≤ _); rw [arrV_size]; exact hin) (by show (arrV _ _ _).slots[_]? = _; rw [arrV_read _ _ hlt, nI_clamp (by omega), hr]; rfl) rfl rfl hd (kk H locs ls hP hD hS hl)
theorem v_iastF {n a i : Nat} {f : Nat → Int32} {v : Int32} {ws' : va_W} (h : Ok x g cc own rm nL) (q0 : Nat) (ha : ws[q0]? = some (a, .inl (gI g, n, .inl f))) (hi : i < n) (hn : n < 2 ^ 31) (hd : decode cc pc = .ok (.iastore, 1)) (hws : ws.set q0 (a, .inl (gI g, n, .inl (upd f i v))) = ws') (kk : vM x (pc + 1) lv st ws') : vM x pc lv (.int v :: .int (nI i) :: .ref a :: st) ws := by
  subst hws
  obtain ⟨g0, p, e, R, s, m, args, below, meth, c, cells, slots, Q, A, nL0⟩ := x
  obtain ⟨rfl, rfl, rfl, hx, hb, hml, hown, hts, hK, hA, hlk, hnw, hcl', hsl⟩ := h
  intro H locs ls hP hD hS hl
  refine va_iast hx hb hK hP hD hS q0 0 ha rfl (vp_in_nI hi hn) hd (fun H1 locs1 hP1 hD1 hS1 => ?_)
  rw [nI_clamp (by omega)] at hP1 hD1
  exact kk H1 locs1 ls hP1 hD1 hS1 hl
theorem v_iastN {n a i v : Nat} {w : Nat → Nat} {ws' : va_W} (h : Ok x g cc own rm nL) (q0 : Nat) (ha : ws[q0]? = some (a, .inl (gI g, n, .inl (fun j => nI (w j))))) (hi : i < n) (hn : n < 2 ^ 31) (hd : decode cc pc = .ok (.iastore, 1)) (hws : ws.set q0 (a, .inl (gI g, n, .inl (fun j => nI (up w i v j)))) = ws') (kk : vM x (pc + 1) lv st ws') : vM x pc lv (.int (nI v) :: .int (nI i) :: .ref a :: st) ws := v_iastF h q0 ha hi hn hd (by rw [upd_nI]; exact hws) kk
theorem nar_bN (b : Bool) : vp_nar .boolean (nI (bN b)) = nI (bN b) := by cases b <;> rfl
/-- f, but v at i -/
def upB (w : Nat → Bool) (i : Nat) (v : Bool) : Nat → Bool := fun j => if j = i then v else w j
theorem v_zastN {n a i : Nat} {v : Bool} {w : Nat → Bool} {ws' : va_W} (h : Ok x g cc own rm nL) (q0 : Nat) (ha : ws[q0]? = some (a, .inl (gZ g, n, .inl (fun j => nI (bN (w j)))))) (hi : i < n) (hn : n < 2 ^ 31) (hd : decode cc pc = .ok (.bastore, 1)) (hws : ws.set q0 (a, .inl (gZ g, n, .inl (fun j => nI (bN (upB w i v j))))) = ws') (kk : vM x (pc + 1) lv st ws') : vM x pc lv (.int (nI (bN v)) :: .int (nI i) :: .ref a :: st) ws := by
  subst hws
  obtain ⟨g0, p, e, R, s, m, args, below, meth, c, cells, slots, Q, A, nL0⟩ := x
  obtain ⟨rfl, rfl, rfl, hx, hb, hml, hown, hts, hK, hA, hlk, hnw, hcl', hsl⟩ := h
  intro H locs ls hP hD hS hl
  refine va_zast hx hb hK hP hD hS q0 1 ha rfl (vp_in_nI hi hn) hd (fun H1 locs1 hP1 hD1 hS1 => ?_)
  have e : upd (fun j => nI (bN (w j))) (nI i).toNatClampNeg (vp_nar .boolean (nI (bN v))) = fun j => nI (bN (upB w i v j)) := by
    rw [nar_bN, nI_clamp (by omega)]
    funext j
    by_cases hj : j = i <;> simp [upd, upB, hj]
  rw [e] at hP1 hD1
  exact kk H1 locs1 ls hP1 hD1 hS1 hl
theorem v_alen {n a : Nat} {f : Nat → Int32} (h : Ok x g cc own rm nL) (q0 : Nat) (ha : ws[q0]? = some (a, .inl (gI g, n, .inl f))) (hd : decode cc pc = .ok (.arraylength, 1)) (kk : vM x (pc + 1) lv (.int (nI n) :: st) ws) : vM x pc lv (.ref a :: st) ws := by
  obtain ⟨g0, p, e, R, s, m, args, below, meth, c, cells, slots, Q, A, nL0⟩ := x
  obtain ⟨rfl, rfl, rfl, hx, hb, hml, hown, hts, hK, hA, hlk, hnw, hcl', hsl⟩ := h
  intro H locs ls hP hD hS hl
  exact va_alen hx hb hK hP q0 0 ha rfl rfl hd (kk H locs ls hP hD hS hl)
/-- what links a call: instance methods, static ones, a nest mate's static ones -/
def LkV (own : String) (idx : Nat) (y : MethodName) (cc : ByteArray) (ml : Nat) (ret : Option FieldType) (n : Nat) : Prop := Cond.methodLink own idx y ∈ wsL_law ∧ Cond.instanceMethod y ∈ wsL_law ∧ Cond.selects y.cls y y ∈ wsL_law ∧ Cond.initialized y.cls ∈ wsL_law ∧ Cond.code y cc ml ret ∈ wsL_law ∧ (y.cls ≠ "java/lang/invoke/MethodHandle" ∧ y.cls ≠ "java/lang/invoke/VarHandle" ∧ (parseMethodDescriptor y.desc).map (fun d => d.parameters.length) = some n)
def LkS (own : String) (idx : Nat) (y : MethodName) (cc : ByteArray) (ml : Nat) (ret : Option FieldType) (n : Nat) : Prop := Cond.methodLink own idx y ∈ wsL_law ∧ Cond.static y ∈ wsL_law ∧ Cond.initialized y.cls ∈ wsL_law ∧ Cond.code y cc ml ret ∈ wsL_law ∧ (y.cls ≠ "java/lang/invoke/MethodHandle" ∧ y.cls ≠ "java/lang/invoke/VarHandle" ∧ (parseMethodDescriptor y.desc).map (fun d => d.parameters.length) = some n)
theorem ws_goodIn {y : MethodName} {cc : ByteArray} {ml : Nat} {ret : Option FieldType} (hc : Cond.code y cc ml ret ∈ wsL_law) : GoodIn wsL_law (Cond.code y cc ml ret :: wsL_law) := fun w hw => by
  rcases List.mem_cons.mp hw with rfl | hw
  · exact ⟨hc, wsL_good _ hc⟩
  · exact ⟨hw, wsL_good _ hw⟩
theorem vPre_blind {g : vG} {wi : va_W} {av : List Value} {sz : Nat} : FrameBlind (va_Pc av (vPre g wi sz)) := fun a U g1 mk q => by
  obtain ⟨q0, q1, qP, qK, qD, qn⟩ := q
  exact ⟨q0, q1, qP, va_K.moved (u := U) (U := U.calling g1 mk a) (Vm.Alike.refl U.vm) qK, qD, vNw.same rfl qn⟩
def RmOk (rmc rm : Room) (ml : Nat) : Prop := rmc.cells = 0 ∧ rmc.slots = 0 ∧ rmc.frames + 1 ≤ rm.frames ∧ 8 + (ml + 11) + rmc.locals ≤ rm.locals
theorem vset_P {D : va_G} {wi wo : va_W} {is : List Nat} {H H1 : Heap} {A : Nat → Prop} (hP : va_P D vwCl ws H) (hD : va_D A ws) (hC : is.map (fun i => ws[i]?) = wi.map some) (ho : va_P D vwCl wo H1) (hfst : wo.map (fun q => q.1) = wi.map (fun q => q.1)) (hk : ∀ q : Nat, q < H.size → ¬ va_A wi H.size q → H1[q]? = H[q]?) : va_P D vwCl (vset ws is wo) H1 ∧ va_D A (vset ws is wo) := by
  have hlen : is.length = wo.length := by
    have h1 := congrArg List.length hC
    have h2 := congrArg List.length hfst
    simp at h1 h2
    omega
  have hw : ∀ (j i : Nat), is[j]? = some i → ∃ z, wi[j]? = some z ∧ ws[i]? = some z := by
    intro j i hj
    have h1 : (is.map (fun i => ws[i]?))[j]? = some (ws[i]?) := by rw [List.getElem?_map, hj]; rfl
    rw [hC, List.getElem?_map] at h1
    cases hz : wi[j]? with
    | none => rw [hz] at h1; simp at h1
    | some z => rw [hz] at h1; exact ⟨z, rfl, (by simpa using h1.symm)⟩
  refine ⟨fun k q hq => ?_, va_D_fst (vset_fst is wo ws (fun j i d hj hd => ?_)) hD⟩
  · rcases vset_get is wo ws k q hlen hq with ⟨j, -, h2⟩ | ⟨h1, h2⟩
    · exact ho j q h2
    · refine (hP k q h1).kept (hk q.1 (hP k q h1).lt (fun hA => ?_))
      rcases hA with ⟨j, e, hj⟩ | hA
      · have hjl : j < is.length := by
          have := (List.getElem?_eq_some_iff.mp hj).1
          have h3 := congrArg List.length hC
          simp at h3
          omega
        obtain ⟨i, hi⟩ : ∃ i, is[j]? = some i := ⟨is[j], List.getElem?_eq_getElem hjl⟩
        obtain ⟨z, hz1, hz2⟩ := hw j i hi
        rw [hj] at hz1
        have hz3 : (q.1, e) = z := by simpa using hz1
        have := hD.1 k i q z h1 hz2 (by rw [← hz3])
        subst this
        exact h2 (List.mem_of_getElem? hi)
      · have := (hP k q h1).lt
        omega
  · obtain ⟨z, hz1, hz2⟩ := hw j i hj
    rw [List.getElem?_map, hz2]
    have h1 : (wo.map (fun q => q.1))[j]? = some d.1 := by rw [List.getElem?_map, hd]; rfl
    rw [hfst, List.getElem?_map, hz1] at h1
    simpa using h1
theorem v_callV {idx n : Nat} {y : MethodName} {bytes : ByteArray} {ml : Nat} {ret : Option FieldType} {rmc : Room} {wi wo : va_W} {a : Nat} {As rest : List Value} {r : Option Value} {ci : Nat} {q : vw_C} {fs : List Value} (h : Ok x g cc own rm nL) (hc : Ct g y bytes ml ret rmc wi (.ref a :: As) r wo) (lk : LkV own idx y bytes ml ret n) (hrm : RmOk rmc rm ml) (hcl : vwCl[ci]? = some q) (hq : y.cls = q.1) (h0 : wi[0]? = some (a, .inr (ci, fs))) (hn : As.length = n) (isC : List Nat) (hC : isC.map (fun i => ws[i]?) = wi.map some) (hnd : va_nd isC = true) (hW : (rest.map fun v => v.category).sum ≤ 8) (hd : decode cc pc = .ok (.invokevirtual idx, 3)) {ws' : va_W} (hws : vset ws isC wo = ws') (k : vM x (pc + 3) lv (r.toList ++ rest) ws') : vM x pc lv (As.reverse ++ .ref a :: rest) ws := by
  subst hws
  obtain ⟨g0, p, e, R, s, m, args, below, meth, c, cells, slots, Q, A, nL0⟩ := x
  obtain ⟨rfl, rfl, rfl, hx, hb, hml, hown, hts, hK, hA, hlk, hnw, hcl', hsl⟩ := h
  obtain ⟨hfst, hM⟩ := hc
  obtain ⟨hl1, hl2, hl3, hl4, hl5, hl6⟩ := lk
  obtain ⟨hr1, hr2, hr3, hr4⟩ := hrm
  intro H locs ls hP hD hS hl
  have hPc := hP.sub isC (filterMap_of_map hC)
  have hDc := hD.sub isC hnd hC
  have hFc := va_free (wc := wi) hD hS hA isC hC
  have cw : CallW R s args own y.cls idx y bytes ml ret (.code y bytes ml ret :: wsL_law) rmc 0 0 n := ⟨callB_of n hts (ws_goodIn hl5) rfl hr1 hr2 (hts _ hl4) (hts _ hl1) hl6 ⟨hr3, hr4⟩, hts _ hl2, hts _ hl3⟩
  have hrun := va_runV (H := H) (locs := locs) (cells := cells) (slots := slots) (below := below) (meth := meth) (e := e) (As := As) (rest := rest) (b := a) (g := F0 m pc ls (As.reverse ++ .ref a :: rest)) (Ts := wsL_law) (own := own) (C := y.cls) ⟨hx, hb, hml, hown, hts⟩ (hM H.size) cw ⟨vPre_blind, by rw [hq]; exact va_recv hK hPc hcl h0, fun U hU hW2 => ⟨rfl, by rw [hU], by rw [hU]; exact hPc, va_K.moved hW2.alike hK, hDc.weaken (fun _ _ _ _ => trivial), hnw.warm hW2⟩⟩ rfl hn hl.1 rfl (lv_room hW) hd ⟨hcl', hsl⟩
  intro T hT X
  obtain ⟨v, st₀, t, T', L, e0, X', hL, e1, e2, ⟨⟨hv, hPo⟩, hz, hk⟩, stp⟩ := hrun T hT X
  cases hv
  rw [e0] at hz hk
  obtain ⟨hP', hD'⟩ := vset_P (H1 := T'.heap) hP hD hC (by rw [e1]; exact hPo) hfst (fun q h1 h2 => by rw [e1]; exact hk q h1 h2)
  obtain ⟨t2, a1, b1⟩ := k T'.heap (locs ++ L) ls hP' hD' ⟨Nat.le_trans hS.1 (by rw [e1]; exact hz), fun q h1 h2 => by rw [e1, hk q (Nat.lt_of_lt_of_le h1 hS.1) (fun z => h2 (hFc q z))]; exact hS.2.1 q h1 h2, fun q hq => by
      rcases List.mem_append.mp hq with h | h
      · exact hS.2.2 q h
      · exact hFc _ (hL q h)⟩ hl T' rfl X'
  exact ⟨t2, stp t2 a1, b1⟩
theorem v_callS {idx n : Nat} {y : MethodName} {bytes : ByteArray} {ml : Nat} {ret : Option FieldType} {rmc : Room} {wi wo : va_W} {As rest : List Value} {r : Option Value} (h : Ok x g cc own rm nL) (hc : Ct g y bytes ml ret rmc wi As r wo) (lk : LkS own idx y bytes ml ret n) (hrm : RmOk rmc rm ml) (hn : As.length = n) (isC : List Nat) (hC : isC.map (fun i => ws[i]?) = wi.map some) (hnd : va_nd isC = true) (hW : (rest.map fun v => v.category).sum ≤ 8) (hd : decode cc pc = .ok (.invokestatic idx, 3)) {ws' : va_W} (hws : vset ws isC wo = ws') (k : vM x (pc + 3) lv (r.toList ++ rest) ws') : vM x pc lv (As.reverse ++ rest) ws := by
  subst hws
  obtain ⟨g0, p, e, R, s, m, args, below, meth, c, cells, slots, Q, A, nL0⟩ := x
  obtain ⟨rfl, rfl, rfl, hx, hb, hml, hown, hts, hK, hA, hlk, hnw, hcl', hsl⟩ := h
  obtain ⟨hfst, hM⟩ := hc
  obtain ⟨hl1, hl3, hl4, hl5, hl6⟩ := lk
  obtain ⟨hr1, hr2, hr3, hr4⟩ := hrm
  intro H locs ls hP hD hS hl
  have hPc := hP.sub isC (filterMap_of_map hC)
  have hDc := hD.sub isC hnd hC
  have hFc := va_free (wc := wi) hD hS hA isC hC
  have hrun := va_runS (H := H) (locs := locs) (cells := cells) (slots := slots) (below := below) (meth := meth) (e := e) (As := As) (rest := rest) (g := F0 m pc ls (As.reverse ++ rest)) (Ts := wsL_law) (own := own) ⟨hx, hb, hml, hown, hts⟩ (hM H.size) ⟨callB_of n hts (ws_goodIn hl5) rfl hr1 hr2 (hts _ hl4) (hts _ hl1) hl6 ⟨hr3, hr4⟩, hts _ hl3⟩ ⟨vPre_blind, fun U hU hW2 => ⟨rfl, by rw [hU], by rw [hU]; exact hPc, va_K.moved hW2.alike hK, hDc.weaken (fun _ _ _ _ => trivial), hnw.warm hW2⟩⟩ rfl hn hl.1 rfl (lv_room hW) hd ⟨hcl', hsl⟩
  intro T hT X
  obtain ⟨v, st₀, t, T', L, e0, X', hL, e1, e2, ⟨⟨hv, hPo⟩, hz, hk⟩, stp⟩ := hrun T hT X
  cases hv
  rw [e0] at hz hk
  obtain ⟨hP', hD'⟩ := vset_P (H1 := T'.heap) hP hD hC (by rw [e1]; exact hPo) hfst (fun q h1 h2 => by rw [e1]; exact hk q h1 h2)
  obtain ⟨t2, a1, b1⟩ := k T'.heap (locs ++ L) ls hP' hD' ⟨Nat.le_trans hS.1 (by rw [e1]; exact hz), fun q h1 h2 => by rw [e1, hk q (Nat.lt_of_lt_of_le h1 hS.1) (fun z => h2 (hFc q z))]; exact hS.2.1 q h1 h2, fun q hq => by
      rcases List.mem_append.mp hq with h | h
      · exact hS.2.2 q h
      · exact hFc _ (hL q h)⟩ hl T' rfl X'
  exact ⟨t2, stp t2 a1, b1⟩
/-- isIn, a nest mate's -/
def LkN (own : String) (idx : Nat) (y : MethodName) (cc : ByteArray) (ml : Nat) (ret : Option FieldType) (n : Nat) : Prop := (∀ s : State, vNw s → va_Nw (.methodLinkNest own idx y RX7) s) ∧ Cond.static y ∈ wsL_law ∧ Cond.initialized y.cls ∈ wsL_law ∧ Cond.code y cc ml ret ∈ wsL_law ∧ (y.cls ≠ "java/lang/invoke/MethodHandle" ∧ y.cls ≠ "java/lang/invoke/VarHandle" ∧ (parseMethodDescriptor y.desc).map (fun d => d.parameters.length) = some n)
theorem v_callN {idx n : Nat} {y : MethodName} {bytes : ByteArray} {ml : Nat} {ret : Option FieldType} {rmc : Room} {wi wo : va_W} {As rest : List Value} {r : Option Value} (h : Ok x g cc own rm nL) (hc : Ct g y bytes ml ret rmc wi As r wo) (lk : LkN own idx y bytes ml ret n) (hrm : RmOk rmc rm ml) (hn : As.length = n) (isC : List Nat) (hC : isC.map (fun i => ws[i]?) = wi.map some) (hnd : va_nd isC = true) (hW : (rest.map fun v => v.category).sum ≤ 8) (hd : decode cc pc = .ok (.invokestatic idx, 3)) {ws' : va_W} (hws : vset ws isC wo = ws') (k : vM x (pc + 3) lv (r.toList ++ rest) ws') : vM x pc lv (As.reverse ++ rest) ws := by
  subst hws
  obtain ⟨g0, p, e, R, s, m, args, below, meth, c, cells, slots, Q, A, nL0⟩ := x
  obtain ⟨rfl, rfl, rfl, hx, hb, hml, hown, hts, hK, hA, hlk, hnw, hcl', hsl⟩ := h
  obtain ⟨hfst, hM⟩ := hc
  obtain ⟨hl1, hl3, hl4, hl5, hl6⟩ := lk
  obtain ⟨hr1, hr2, hr3, hr4⟩ := hrm
  intro H locs ls hP hD hS hl
  have hPc := hP.sub isC (filterMap_of_map hC)
  have hDc := hD.sub isC hnd hC
  have hFc := va_free (wc := wi) hD hS hA isC hC
  have hrun := va_runSN (H := H) (locs := locs) (cells := cells) (slots := slots) (below := below) (meth := meth) (e := e) (As := As) (rest := rest) (g := F0 m pc ls (As.reverse ++ rest)) (Ts := wsL_law) (own := own) ⟨hx, hb, hml, hown, hts⟩ (hM H.size) ⟨va_cnB n hts (ws_goodIn hl5) rfl hr1 hr2 (hl1 s hnw) (hts _ hl4) hl6 ⟨hr3, hr4⟩, hts _ hl3, trivial⟩ ⟨vPre_blind, fun U hU hW2 => ⟨rfl, by rw [hU], by rw [hU]; exact hPc, va_K.moved hW2.alike hK, hDc.weaken (fun _ _ _ _ => trivial), hnw.warm hW2⟩⟩ rfl hn hl.1 rfl (lv_room hW) hd ⟨hcl', hsl⟩
  intro T hT X
  obtain ⟨v, st₀, t, T', L, e0, X', hL, e1, e2, ⟨⟨hv, hPo⟩, hz, hk⟩, stp⟩ := hrun T hT X
  cases hv
  rw [e0] at hz hk
  obtain ⟨hP', hD'⟩ := vset_P (H1 := T'.heap) hP hD hC (by rw [e1]; exact hPo) hfst (fun q h1 h2 => by rw [e1]; exact hk q h1 h2)
  obtain ⟨t2, a1, b1⟩ := k T'.heap (locs ++ L) ls hP' hD' ⟨Nat.le_trans hS.1 (by rw [e1]; exact hz), fun q h1 h2 => by rw [e1, hk q (Nat.lt_of_lt_of_le h1 hS.1) (fun z => h2 (hFc q z))]; exact hS.2.1 q h1 h2, fun q hq => by
      rcases List.mem_append.mp hq with h | h
      · exact hS.2.2 q h
      · exact hFc _ (hL q h)⟩ hl T' rfl X'
  exact ⟨t2, stp t2 a1, b1⟩
theorem v_max {idx : Nat} {a b : Int32} (h : Ok x g cc own rm nL) (hl1 : Cond.methodLink own idx yJ9_max_7cf53 ∈ wsL_law) (hf : 1 ≤ rm.frames) (hlo : (st.map fun v => v.category).sum + 13 ≤ rm.locals) (hd : decode cc pc = .ok (.invokestatic idx, 3)) (k : vM x (pc + 3) lv (.int (if a < b then b else a) :: st) ws) : vM x pc lv (.int b :: .int a :: st) ws := by
  obtain ⟨g0, p, e, R, s, m, args, below, meth, c, cells, slots, Q, A, nL0⟩ := x
  obtain ⟨rfl, rfl, rfl, hx, hb, hml, hown, hts, hK, hA, hlk, hnw, hcl', hsl⟩ := h
  intro H locs ls hP hD hS hl
  exact va_mmax hx hb (hml.trans hl.1.symm) hown (hts _ hl1) (hts _ ms_J9_max_7cf53) (hts _ mi_J9) (hts _ mc_J9_max_7cf53) hf hlo hcl' hsl hd (k H locs ls hP hD hS hl)
theorem v_min {idx : Nat} {a b : Int32} (h : Ok x g cc own rm nL) (hl1 : Cond.methodLink own idx yJ9_min_7cf53 ∈ wsL_law) (hf : 1 ≤ rm.frames) (hlo : (st.map fun v => v.category).sum + 13 ≤ rm.locals) (hd : decode cc pc = .ok (.invokestatic idx, 3)) (k : vM x (pc + 3) lv (.int (if b < a then b else a) :: st) ws) : vM x pc lv (.int b :: .int a :: st) ws := by
  obtain ⟨g0, p, e, R, s, m, args, below, meth, c, cells, slots, Q, A, nL0⟩ := x
  obtain ⟨rfl, rfl, rfl, hx, hb, hml, hown, hts, hK, hA, hlk, hnw, hcl', hsl⟩ := h
  intro H locs ls hP hD hS hl
  exact va_mmin hx hb (hml.trans hl.1.symm) hown (hts _ hl1) (hts _ ms_J9_min_7cf53) (hts _ mi_J9) (hts _ mc_J9_min_7cf53) hf hlo hcl' hsl hd (k H locs ls hP hD hS hl)
theorem v_maxN {idx : Nat} {a b : Nat} (h : Ok x g cc own rm nL) (hl1 : Cond.methodLink own idx yJ9_max_7cf53 ∈ wsL_law) (hf : 1 ≤ rm.frames) (hlo : (st.map fun v => v.category).sum + 13 ≤ rm.locals) (hd : decode cc pc = .ok (.invokestatic idx, 3)) (ha : a < 2 ^ 31) (hb2 : b < 2 ^ 31) (k : vM x (pc + 3) lv (.int (nI (max a b)) :: st) ws) : vM x pc lv (.int (nI b) :: .int (nI a) :: st) ws := by
  refine v_max h hl1 hf hlo hd ?_
  have e : (if nI a < nI b then nI b else nI a) = nI (max a b) := by
    by_cases q : a < b
    · rw [if_pos ((nI_ltI ha hb2).mpr q), Nat.max_eq_right (by omega)]
    · rw [if_neg (fun z => q ((nI_ltI ha hb2).mp z)), Nat.max_eq_left (by omega)]
  rw [e]
  exact k
theorem v_minN {idx : Nat} {a b : Nat} (h : Ok x g cc own rm nL) (hl1 : Cond.methodLink own idx yJ9_min_7cf53 ∈ wsL_law) (hf : 1 ≤ rm.frames) (hlo : (st.map fun v => v.category).sum + 13 ≤ rm.locals) (hd : decode cc pc = .ok (.invokestatic idx, 3)) (ha : a < 2 ^ 31) (hb2 : b < 2 ^ 31) (k : vM x (pc + 3) lv (.int (nI (min a b)) :: st) ws) : vM x pc lv (.int (nI b) :: .int (nI a) :: st) ws := by
  refine v_min h hl1 hf hlo hd ?_
  have e : (if nI b < nI a then nI b else nI a) = nI (min a b) := by
    by_cases q : b < a
    · rw [if_pos ((nI_ltI hb2 ha).mpr q), Nat.min_eq_right (by omega)]
    · rw [if_neg (fun z => q ((nI_ltI hb2 ha).mp z)), Nat.min_eq_left (by omega)]
  rw [e]
  exact k

end VMR
end
